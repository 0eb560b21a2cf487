theorem zRjC_of {k j mc ms : Nat} (h : Nat.ble (j + 1) k = true) : zRj (rmC k mc ms) j := by
  have := Nat.le_of_ble_eq_true h
  refine ⟨this, ?_⟩
  show 32 * (j + 1) ≤ 32 * k
  omega
def bst0 : Stg := (50, 20, 0, 100)
def sc0 : Scn := (bst0, 1000, (fun _ => bst0), 0, sCC)
def sf0 : Shf := (0, (0, 0), 0, 0, fun _ => 0)
section ZQC
variable {p : Program} {l : Launch} {e : Env} {R : Room} {s : State} {m : MethodId} {args : Array Value} {below : List Frame} {meth : Method} {c : Code} {H : Heap} {locs : List Loc} {cells slots : Nat} {Q : State → Prop}
variable {cc : ByteArray} {nL pc : Nat} {ls : Array Slot} {rest : List Value} {D : va_G} {cy : Nat → Nat} {A : Nat → Prop} {H0 : Heap} {own : String} {n : Nat} {ad : Nat → Nat} {F : Nat → va_E}
theorem zastqC {k j N t ci : Nat} {a v : Nat} {C : String} {T : u_T} {N0 : Nat} (ha : ad k = a) (hv : ad j = v) (hC : zC p m c cc nL s args own D cy) (hZ : zH D A H0 n ad F H locs) (hk : k < n) (hj : j < n) {f : Nat → Option Nat} (hF : F k = oRefs cy t N f) (ht : (zT cy)[t]? = some (cy t, .object C)) {vs : List Value} (hFj : F j = .inr (ci, vs)) (hc : vwCl[ci]? = some (C, T, N0)) {i : Int32} {x : Nat} (hi : i = nI x) (hx : x < N) (hN : N < 2 ^ 31) (hd : decode cc pc = .ok (.aastore, 1))
    (kk : ∀ (F1 : Nat → va_E), F1 = va_up F k (oRefs cy t N (va_up f x (some v))) → ∀ (H1 : Heap) (locs1 : List Loc), zH D A H0 n ad F1 H1 locs1 → W p l e R s m args below meth c H1 locs1 cells slots Q (F0 m (pc + 1) ls rest)) : W p l e R s m args below meth c H locs cells slots Q (F0 m pc ls (.ref v :: .int i :: .ref a :: rest)) := zastq hC hZ ha hv hk hj hF ht hFj hc hi hx hN hd kk
end ZQC
section MVS
variable {ad ad1 cy : Nat → Nat} {F F1 : Nat → va_E} {k : Nat}
theorem RS_rb {D : va_G} {A : Nat → Prop} {H0 H : Heap} {n : Nat} {locs : List Loc} {sc : Scn} (hZ : zH D A H0 n ad1 F1 H locs) (hk : k + 12 ≤ n) (h : RS ad cy k F sc) (ha : ∀ j, k ≤ j → j < k + 12 → ad1 j = ad j) (hF : ∀ j, k ≤ j → j < k + 12 → F1 j = F j) :
    ∃ F2 : Nat → va_E, zH D A H0 n ad1 F2 H locs ∧ (∀ j, ¬ j = k + 2 → F2 j = F1 j) ∧ RS ad1 cy k F2 sc := by
  obtain ⟨h1, h2, h3, h4, h5⟩ := h
  have h9 : F1 (k + 2) = oTries ad cy k := (hF _ (by omega) (by omega)).trans h3
  have hf9 : ∀ i, i < 8 → (fun i => some (ad1 (k + 4 + i))) i = (fun i => some (ad (k + 4 + i))) i := fun i hi => congrArg some (ha (k + 4 + i) (by omega) (by omega))
  have hZ2 := zrefs hZ (k := k + 2) (by omega) h9 hf9
  obtain ⟨F2, hF2⟩ : ∃ z, z = va_up F1 (k + 2) (oTries ad1 cy k) := ⟨_, rfl⟩
  rw [← hF2] at hZ2
  refine ⟨F2, hZ2, fun j hj => znu hF2 hj, ?_, ?_, zeq hF2, ?_, fun i hi => ?_⟩
  · rw [znu hF2 (by omega), hF _ (by omega) (by omega), h1]; unfold oScene
    rw [ha (k + 1) (by omega) (by omega), ha (k + 2) (by omega) (by omega), ha (k + 3) (by omega) (by omega)]
  · rw [znu hF2 (by omega), hF _ (by omega) (by omega), h2]
  · rw [znu hF2 (by omega), hF _ (by omega) (by omega), h4]
  · rw [znu hF2 (by omega), hF _ (by omega) (by omega), h5 i hi]
theorem RSh_mv {sf : Shf} (h : RSh ad cy k F sf) (ha : ∀ j, k ≤ j → j < k + 3 → ad1 j = ad j) (hF : ∀ j, k ≤ j → j < k + 3 → F1 j = F j) : RSh ad1 cy k F1 sf := by
  obtain ⟨h1, h2, h3⟩ := h
  refine ⟨?_, (hF _ (by omega) (by omega)).trans h2, (hF _ (by omega) (by omega)).trans h3⟩
  rw [hF _ (by omega) (by omega), h1]; unfold oShelf
  rw [ha (k + 1) (by omega) (by omega), ha (k + 2) (by omega) (by omega)]
theorem RRd_mv {rd : Rdr} (h : RRd ad cy k F rd) (ha : ∀ j, k ≤ j → j < k + 2 → ad1 j = ad j) (hF : ∀ j, k ≤ j → j < k + 2 → F1 j = F j) : RRd ad1 cy k F1 rd := by
  obtain ⟨h1, h2⟩ := h
  refine ⟨?_, (hF _ (by omega) (by omega)).trans h2⟩
  rw [hF _ (by omega) (by omega), h1]; unfold oReader
  rw [ha (k + 1) (by omega) (by omega)]
theorem RX_mv {D : va_G} {A : Nat → Prop} {H0 H : Heap} {n : Nat} {locs : List Loc} {pic : Int32} {sc ps : Scn} {sh : Nat → Shf} {rd : Rdr} {dr : Stg} {fa : Tal} {mi : Crs} (hZ : zH D A H0 n ad1 F1 H locs) (hn : 56 ≤ n) (h : RX ad cy F pic sc ps sh rd dr fa mi) (ha : ∀ j, j < 56 → ad1 j = ad j) (hF : ∀ j, j < 56 → F1 j = F j) :
    ∃ F2 : Nat → va_E, zH D A H0 n ad1 F2 H locs ∧ (∀ j, 56 ≤ j → F2 j = F1 j) ∧ RX ad1 cy F2 pic sc ps sh rd dr fa mi := by
  obtain ⟨h1, h2, h3, h4, h5, h6, h7, h8, h9, h10⟩ := h
  obtain ⟨Fa, hZa, hfa, ra⟩ := RS_rb hZ (by omega) h2 (fun j _ _ => ha j (by omega)) (fun j _ _ => hF j (by omega))
  obtain ⟨Fb, hZb, hfb, rb⟩ := RS_rb hZa (by omega) h3 (fun j _ _ => ha j (by omega)) (fun j _ _ => (hfa j (by omega)).trans (hF j (by omega)))
  have e25 : Fb 25 = oShelves ad cy := by rw [hfb 25 (by omega), hfa 25 (by omega), hF 25 (by omega)]; exact h4
  have hf9 : ∀ i, i < 8 → (fun i => some (ad1 (26 + 3 * i))) i = (fun i => some (ad (26 + 3 * i))) i := fun i hi => congrArg some (ha (26 + 3 * i) (by omega))
  have hZc := zrefs hZb (k := 25) (by omega) e25 hf9
  obtain ⟨Fc, hFc⟩ : ∃ z, z = va_up Fb 25 (oShelves ad1 cy) := ⟨_, rfl⟩
  rw [← hFc] at hZc
  have g : ∀ j, ¬ j = 3 → ¬ j = 15 → ¬ j = 25 → Fc j = F1 j := fun j g1 g2 g3 => by rw [znu hFc g3, hfb j g2, hfa j g1]
  have gF : ∀ j, j < 56 → ¬ j = 3 → ¬ j = 15 → ¬ j = 25 → Fc j = F j := fun j hj g1 g2 g3 => (g j g1 g2 g3).trans (hF j hj)
  refine ⟨Fc, hZc, fun j hj => g j (by omega) (by omega) (by omega), ?_, RS_fr ra (fun q _ _ => by rw [znu hFc (by omega), hfb q (by omega)]), RS_fr rb (fun q _ _ => znu hFc (by omega)), zeq hFc, fun i hi => ?_, ?_, ?_, ?_, ?_, ?_⟩
  · rw [gF 0 (by omega) (by omega) (by omega) (by omega), h1]; unfold oMain
    rw [ha 1 (by omega), ha 13 (by omega), ha 25 (by omega), ha 50 (by omega), ha 52 (by omega), ha 53 (by omega), ha 54 (by omega), ha 55 (by omega)]
  · exact RSh_mv (h5 i hi) (fun j _ _ => ha j (by omega)) (fun j _ _ => gF j (by omega) (by omega) (by omega) (by omega))
  · exact RRd_mv h6 (fun j _ _ => ha j (by omega)) (fun j _ _ => gF j (by omega) (by omega) (by omega) (by omega))
  · rw [gF 52 (by omega) (by omega) (by omega) (by omega)]; exact h7
  · rw [gF 53 (by omega) (by omega) (by omega) (by omega)]; exact h8
  · rw [gF 54 (by omega) (by omega) (by omega) (by omega)]; exact h9
  · rw [gF 55 (by omega) (by omega) (by omega) (by omega)]; exact h10
theorem RM_mv {th pic : Int32} {sc ps : Scn} {sh : Nat → Shf} (h : RM ad cy F th pic sc ps sh) (ha : ∀ j, j < 68 → ad1 j = ad j) (hF : ∀ j, 56 ≤ j → j < 68 → F1 j = F j) : RM ad1 cy F1 th pic sc ps sh := by
  obtain ⟨bs, en, u, st, kk, dw, ho, sv, ia, tk, told, pl, nu, im, hw, kd, fg, so, mn, rw0, bt, hM, h57, h58, h59, h60, h61, h62, h63, h64, h65, h66, h67, hR⟩ := h
  refine ⟨bs, en, u, st, kk, dw, ho, sv, ia, tk, told, pl, nu, im, hw, kd, fg, so, mn, rw0, bt, ?_, ?_, ?_, ?_, ?_, ?_, ?_, ?_, ?_, ?_, ?_, ?_, hR⟩
  · rw [hF 56 (by omega) (by omega), hM]; unfold oModel
    rw [ha 57 (by omega), ha 58 (by omega), ha 59 (by omega), ha 60 (by omega), ha 61 (by omega), ha 62 (by omega), ha 63 (by omega), ha 64 (by omega), ha 65 (by omega), ha 66 (by omega), ha 67 (by omega)]
  · rw [hF 57 (by omega) (by omega)]; exact h57
  · rw [hF 58 (by omega) (by omega)]; exact h58
  · rw [hF 59 (by omega) (by omega)]; exact h59
  · rw [hF 60 (by omega) (by omega)]; exact h60
  · rw [hF 61 (by omega) (by omega)]; exact h61
  · rw [hF 62 (by omega) (by omega)]; exact h62
  · rw [hF 63 (by omega) (by omega)]; exact h63
  · rw [hF 64 (by omega) (by omega)]; exact h64
  · rw [hF 65 (by omega) (by omega)]; exact h65
  · rw [hF 66 (by omega) (by omega)]; exact h66
  · rw [hF 67 (by omega) (by omega)]; exact h67
end MVS
theorem mX0_init : zMd yX0_init cX0_init 1 none 0 := ⟨by decide +kernel, gt_of 112 (by decide +kernel) rfl, gt_of 48 (by decide +kernel) rfl, by decide⟩
theorem dX0_init_0 : decode cX0_init 0 = .ok (.aload_n 0, 1) := by decide +kernel
theorem dX0_init_1 : decode cX0_init 1 = .ok (.invokespecial 1, 3) := by decide +kernel
theorem oX0_1 : zObj RX0 1 := ⟨gt_of 113 (by decide +kernel) rfl, gt_of 67 (by decide +kernel) rfl, gt_of 68 (by decide +kernel) rfl⟩
theorem dX0_init_4 : decode cX0_init 4 = .ok (.aload_n 0, 1) := by decide +kernel
theorem dX0_init_5 : decode cX0_init 5 = .ok (.iconst 0, 1) := by decide +kernel
theorem dX0_init_6 : decode cX0_init 6 = .ok (.putfield 7, 3) := by decide +kernel
theorem dX0_init_9 : decode cX0_init 9 = .ok (.aload_n 0, 1) := by decide +kernel
theorem dX0_init_10 : decode cX0_init 10 = .ok (.iconst 0, 1) := by decide +kernel
theorem dX0_init_11 : decode cX0_init 11 = .ok (.putfield 13, 3) := by decide +kernel
theorem dX0_init_14 : decode cX0_init 14 = .ok (.aload_n 0, 1) := by decide +kernel
theorem dX0_init_15 : decode cX0_init 15 = .ok (.iconst 0, 1) := by decide +kernel
theorem dX0_init_16 : decode cX0_init 16 = .ok (.putfield 16, 3) := by decide +kernel
theorem dX0_init_19 : decode cX0_init 19 = .ok (.aload_n 0, 1) := by decide +kernel
theorem dX0_init_20 : decode cX0_init 20 = .ok (.iconst 0, 1) := by decide +kernel
theorem dX0_init_21 : decode cX0_init 21 = .ok (.putfield 19, 3) := by decide +kernel
theorem dX0_init_24 : decode cX0_init 24 = .ok (.aload_n 0, 1) := by decide +kernel
theorem dX0_init_25 : decode cX0_init 25 = .ok (.iconst 0, 1) := by decide +kernel
theorem dX0_init_26 : decode cX0_init 26 = .ok (.putfield 22, 3) := by decide +kernel
theorem dX0_init_29 : decode cX0_init 29 = .ok (.return_, 1) := by decide +kernel
set_option maxRecDepth 100000 in
theorem c_X0_init (l : Launch) (D : va_G) (cy : Nat → Nat) (n : Nat) (ad : Nat → Nat) (F : Nat → va_E) (sz : Nat) (k : Nat) (hk : k < n) (hFk : F k = .inr (0, [.int 0, .int 0, .int 0, .int 0, .int 0])) : Met l yX0_init (zw yX0_init cX0_init 1 none) (rmC 1 0 0) (zPc D cy n ad F sz [.ref (ad k)]) (va_Qv (fun F1 => F1 = va_up F k (oCourse (0, 0, 0, 0, 0))) (zB D n ad) (zA n ad sz)) 0 0 (zA n ad sz) := by
  refine zmet (by decide +kernel) (Nat.le_of_ble_eq_true rfl) (fun p e s m args below meth c ls hC hsz hZ hA hr hlocks hnm hl => ?_)
  have hC : zC p m c cX0_init 1 s args RX0 D cy := hC
  have hx := hC.1.1
  have hb := hC.1.2.1
  have hl : lv_has ls 1 [(0, .ref (ad k))] := hl
  have hin : meth.name = "<init>" := hnm
  refine lv_aload_n hx hb dX0_init_0 rfl (lv_at hl 0 rfl) ?_
  refine zobj hC oX0_1 hl.1 (Nat.le_of_ble_eq_true rfl) (Nat.le_of_ble_eq_true rfl) dX0_init_1 ?_
  refine lv_aload_n hx hb dX0_init_4 rfl (lv_at hl 0 rfl) ?_
  refine lv_iconst (v := 0) hx hb dX0_init_5 (by decide) ?_
  refine zput (E := oCourse (0, 0, 0, 0, 0)) hC hZ pX0_7 hk hFk rfl rfl rfl (Nat.le_of_ble_eq_true rfl) dX0_init_6 (fun F_1 hF_2 H locs hZ => ?_)
  have h_3 := zeq hF_2
  refine lv_aload_n hx hb dX0_init_9 rfl (lv_at hl 0 rfl) ?_
  refine lv_iconst (v := 0) hx hb dX0_init_10 (by decide) ?_
  refine zput (E := oCourse (0, 0, 0, 0, 0)) hC hZ pX0_13 hk h_3 rfl rfl rfl (Nat.le_of_ble_eq_true rfl) dX0_init_11 (fun F_4 hF_5 H locs hZ => ?_)
  have h_6 := zeq hF_5
  refine lv_aload_n hx hb dX0_init_14 rfl (lv_at hl 0 rfl) ?_
  refine lv_iconst (v := 0) hx hb dX0_init_15 (by decide) ?_
  refine zput (E := oCourse (0, 0, 0, 0, 0)) hC hZ pX0_16 hk h_6 rfl rfl rfl (Nat.le_of_ble_eq_true rfl) dX0_init_16 (fun F_7 hF_8 H locs hZ => ?_)
  have h_9 := zeq hF_8
  refine lv_aload_n hx hb dX0_init_19 rfl (lv_at hl 0 rfl) ?_
  refine lv_iconst (v := 0) hx hb dX0_init_20 (by decide) ?_
  refine zput (E := oCourse (0, 0, 0, 0, 0)) hC hZ pX0_19 hk h_9 rfl rfl rfl (Nat.le_of_ble_eq_true rfl) dX0_init_21 (fun F_10 hF_11 H locs hZ => ?_)
  have h_12 := zeq hF_11
  refine lv_aload_n hx hb dX0_init_24 rfl (lv_at hl 0 rfl) ?_
  refine lv_iconst (v := 0) hx hb dX0_init_25 (by decide) ?_
  refine zput (E := oCourse (0, 0, 0, 0, 0)) hC hZ pX0_22 hk h_12 rfl rfl rfl (Nat.le_of_ble_eq_true rfl) dX0_init_26 (fun F_13 hF_14 H locs hZ => ?_)
  have h_15 := zeq hF_14
  have hq_16 : F_13 = va_up F k (oCourse (0, 0, 0, 0, 0)) := by rw [hF_14, hF_11, hF_8, hF_5, hF_2]; simp only [bx_uu]
  exact zvret hC hZ hr hlocks hq_16 dX0_init_29

theorem mX3_init : zMd yX3_init cX3_init 1 none 0 := ⟨by decide +kernel, gt_of 79 (by decide +kernel) rfl, gt_of 47 (by decide +kernel) rfl, by decide⟩
theorem dX3_init_0 : decode cX3_init 0 = .ok (.aload_n 0, 1) := by decide +kernel
theorem dX3_init_1 : decode cX3_init 1 = .ok (.invokespecial 3, 3) := by decide +kernel
theorem oX3_3 : zObj RX3 3 := ⟨gt_of 80 (by decide +kernel) rfl, gt_of 67 (by decide +kernel) rfl, gt_of 68 (by decide +kernel) rfl⟩
theorem dX3_init_4 : decode cX3_init 4 = .ok (.aload_n 0, 1) := by decide +kernel
theorem dX3_init_5 : decode cX3_init 5 = .ok (.bipush 50, 2) := by decide +kernel
theorem dX3_init_7 : decode cX3_init 7 = .ok (.putfield 9, 3) := by decide +kernel
theorem dX3_init_10 : decode cX3_init 10 = .ok (.aload_n 0, 1) := by decide +kernel
theorem dX3_init_11 : decode cX3_init 11 = .ok (.bipush 20, 2) := by decide +kernel
theorem dX3_init_13 : decode cX3_init 13 = .ok (.putfield 15, 3) := by decide +kernel
theorem dX3_init_16 : decode cX3_init 16 = .ok (.aload_n 0, 1) := by decide +kernel
theorem dX3_init_17 : decode cX3_init 17 = .ok (.iconst 0, 1) := by decide +kernel
theorem dX3_init_18 : decode cX3_init 18 = .ok (.putfield 18, 3) := by decide +kernel
theorem dX3_init_21 : decode cX3_init 21 = .ok (.aload_n 0, 1) := by decide +kernel
theorem dX3_init_22 : decode cX3_init 22 = .ok (.bipush 100, 2) := by decide +kernel
theorem dX3_init_24 : decode cX3_init 24 = .ok (.putfield 21, 3) := by decide +kernel
theorem dX3_init_27 : decode cX3_init 27 = .ok (.return_, 1) := by decide +kernel
set_option maxRecDepth 100000 in
theorem c_X3_init (l : Launch) (D : va_G) (cy : Nat → Nat) (n : Nat) (ad : Nat → Nat) (F : Nat → va_E) (sz : Nat) (k : Nat) (hk : k < n) (hFk : F k = .inr (3, [.int 0, .int 0, .int 0, .int 0])) : Met l yX3_init (zw yX3_init cX3_init 1 none) (rmC 1 0 0) (zPc D cy n ad F sz [.ref (ad k)]) (va_Qv (fun F1 => F1 = va_up F k (oSetting (50, 20, 0, 100))) (zB D n ad) (zA n ad sz)) 0 0 (zA n ad sz) := by
  refine zmet (by decide +kernel) (Nat.le_of_ble_eq_true rfl) (fun p e s m args below meth c ls hC hsz hZ hA hr hlocks hnm hl => ?_)
  have hC : zC p m c cX3_init 1 s args RX3 D cy := hC
  have hx := hC.1.1
  have hb := hC.1.2.1
  have hl : lv_has ls 1 [(0, .ref (ad k))] := hl
  have hin : meth.name = "<init>" := hnm
  refine lv_aload_n hx hb dX3_init_0 rfl (lv_at hl 0 rfl) ?_
  refine zobj hC oX3_3 hl.1 (Nat.le_of_ble_eq_true rfl) (Nat.le_of_ble_eq_true rfl) dX3_init_1 ?_
  refine lv_aload_n hx hb dX3_init_4 rfl (lv_at hl 0 rfl) ?_
  refine lv_bipush (v := 50) hx hb dX3_init_5 (by decide) ?_
  refine zput (E := oSetting (50, 0, 0, 0)) hC hZ pX3_9 hk hFk rfl rfl rfl (Nat.le_of_ble_eq_true rfl) dX3_init_7 (fun F_1 hF_2 H locs hZ => ?_)
  have h_3 := zeq hF_2
  refine lv_aload_n hx hb dX3_init_10 rfl (lv_at hl 0 rfl) ?_
  refine lv_bipush (v := 20) hx hb dX3_init_11 (by decide) ?_
  refine zput (E := oSetting (50, 20, 0, 0)) hC hZ pX3_15 hk h_3 rfl rfl rfl (Nat.le_of_ble_eq_true rfl) dX3_init_13 (fun F_4 hF_5 H locs hZ => ?_)
  have h_6 := zeq hF_5
  refine lv_aload_n hx hb dX3_init_16 rfl (lv_at hl 0 rfl) ?_
  refine lv_iconst (v := 0) hx hb dX3_init_17 (by decide) ?_
  refine zput (E := oSetting (50, 20, 0, 0)) hC hZ pX3_18 hk h_6 rfl rfl rfl (Nat.le_of_ble_eq_true rfl) dX3_init_18 (fun F_7 hF_8 H locs hZ => ?_)
  have h_9 := zeq hF_8
  refine lv_aload_n hx hb dX3_init_21 rfl (lv_at hl 0 rfl) ?_
  refine lv_bipush (v := 100) hx hb dX3_init_22 (by decide) ?_
  refine zput (E := oSetting (50, 20, 0, 100)) hC hZ pX3_21 hk h_9 rfl rfl rfl (Nat.le_of_ble_eq_true rfl) dX3_init_24 (fun F_10 hF_11 H locs hZ => ?_)
  have h_12 := zeq hF_11
  have hq_13 : F_10 = va_up F k (oSetting (50, 20, 0, 100)) := by rw [hF_11, hF_8, hF_5, hF_2]; simp only [bx_uu]
  exact zvret hC hZ hr hlocks hq_13 dX3_init_27

theorem mX5_init : zMd yX5_init cX5_init 1 none 0 := ⟨by decide +kernel, gt_of 168 (by decide +kernel) rfl, gt_of 50 (by decide +kernel) rfl, by decide⟩
theorem dX5_init_0 : decode cX5_init 0 = .ok (.aload_n 0, 1) := by decide +kernel
theorem dX5_init_1 : decode cX5_init 1 = .ok (.invokespecial 3, 3) := by decide +kernel
theorem oX5_3 : zObj RX5 3 := ⟨gt_of 169 (by decide +kernel) rfl, gt_of 67 (by decide +kernel) rfl, gt_of 68 (by decide +kernel) rfl⟩
theorem dX5_init_4 : decode cX5_init 4 = .ok (.aload_n 0, 1) := by decide +kernel
theorem dX5_init_5 : decode cX5_init 5 = .ok (.iconst 0, 1) := by decide +kernel
theorem dX5_init_6 : decode cX5_init 6 = .ok (.putfield 9, 3) := by decide +kernel
theorem dX5_init_9 : decode cX5_init 9 = .ok (.aload_n 0, 1) := by decide +kernel
theorem dX5_init_10 : decode cX5_init 10 = .ok (.iconst 0, 1) := by decide +kernel
theorem dX5_init_11 : decode cX5_init 11 = .ok (.putfield 15, 3) := by decide +kernel
theorem dX5_init_14 : decode cX5_init 14 = .ok (.return_, 1) := by decide +kernel
set_option maxRecDepth 100000 in
theorem c_X5_init (l : Launch) (D : va_G) (cy : Nat → Nat) (n : Nat) (ad : Nat → Nat) (F : Nat → va_E) (sz : Nat) (k : Nat) (hk : k < n) (hFk : F k = .inr (5, [.int 0, .int 0])) : Met l yX5_init (zw yX5_init cX5_init 1 none) (rmC 1 0 0) (zPc D cy n ad F sz [.ref (ad k)]) (va_Qv (fun F1 => F1 = va_up F k (oTale (0, 0))) (zB D n ad) (zA n ad sz)) 0 0 (zA n ad sz) := by
  refine zmet (by decide +kernel) (Nat.le_of_ble_eq_true rfl) (fun p e s m args below meth c ls hC hsz hZ hA hr hlocks hnm hl => ?_)
  have hC : zC p m c cX5_init 1 s args RX5 D cy := hC
  have hx := hC.1.1
  have hb := hC.1.2.1
  have hl : lv_has ls 1 [(0, .ref (ad k))] := hl
  have hin : meth.name = "<init>" := hnm
  refine lv_aload_n hx hb dX5_init_0 rfl (lv_at hl 0 rfl) ?_
  refine zobj hC oX5_3 hl.1 (Nat.le_of_ble_eq_true rfl) (Nat.le_of_ble_eq_true rfl) dX5_init_1 ?_
  refine lv_aload_n hx hb dX5_init_4 rfl (lv_at hl 0 rfl) ?_
  refine lv_iconst (v := 0) hx hb dX5_init_5 (by decide) ?_
  refine zput (E := oTale (0, 0)) hC hZ pX5_9 hk hFk rfl rfl rfl (Nat.le_of_ble_eq_true rfl) dX5_init_6 (fun F_1 hF_2 H locs hZ => ?_)
  have h_3 := zeq hF_2
  refine lv_aload_n hx hb dX5_init_9 rfl (lv_at hl 0 rfl) ?_
  refine lv_iconst (v := 0) hx hb dX5_init_10 (by decide) ?_
  refine zput (E := oTale (0, 0)) hC hZ pX5_15 hk h_3 rfl rfl rfl (Nat.le_of_ble_eq_true rfl) dX5_init_11 (fun F_4 hF_5 H locs hZ => ?_)
  have h_6 := zeq hF_5
  have hq_7 : F_4 = va_up F k (oTale (0, 0)) := by rw [hF_5, hF_2]; simp only [bx_uu]
  exact zvret hC hZ hr hlocks hq_7 dX5_init_14

theorem mX1_init : zMd yX1_init cX1_init 1 none 0 := ⟨by decide +kernel, gt_of 205 (by decide +kernel) rfl, gt_of 51 (by decide +kernel) rfl, by decide⟩
theorem dX1_init_0 : decode cX1_init 0 = .ok (.aload_n 0, 1) := by decide +kernel
theorem dX1_init_1 : decode cX1_init 1 = .ok (.invokespecial 3, 3) := by decide +kernel
theorem oX1_3 : zObj RX1 3 := ⟨gt_of 206 (by decide +kernel) rfl, gt_of 67 (by decide +kernel) rfl, gt_of 68 (by decide +kernel) rfl⟩
theorem dX1_init_4 : decode cX1_init 4 = .ok (.aload_n 0, 1) := by decide +kernel
theorem dX1_init_5 : decode cX1_init 5 = .ok (.bipush 100, 2) := by decide +kernel
theorem dX1_init_7 : decode cX1_init 7 = .ok (.newarray .int, 2) := by decide +kernel
theorem pX1_9 : zFldP RX1 9 1 0 true (.array .int) := ⟨RX1, TX1, 4, tyX1, rfl, inX1, by decide, rfl, Or.inl (gt_of 207 (by decide +kernel) rfl), tyX1_ok, nmX1, rfl, by decide +kernel, fun _ => rfl⟩
theorem dX1_init_9 : decode cX1_init 9 = .ok (.putfield 9, 3) := by decide +kernel
theorem dX1_init_12 : decode cX1_init 12 = .ok (.aload_n 0, 1) := by decide +kernel
theorem dX1_init_13 : decode cX1_init 13 = .ok (.iconst 0, 1) := by decide +kernel
theorem dX1_init_14 : decode cX1_init 14 = .ok (.putfield 15, 3) := by decide +kernel
theorem dX1_init_17 : decode cX1_init 17 = .ok (.aload_n 0, 1) := by decide +kernel
theorem dX1_init_18 : decode cX1_init 18 = .ok (.iconst 0, 1) := by decide +kernel
theorem dX1_init_19 : decode cX1_init 19 = .ok (.putfield 19, 3) := by decide +kernel
theorem dX1_init_22 : decode cX1_init 22 = .ok (.aload_n 0, 1) := by decide +kernel
theorem dX1_init_23 : decode cX1_init 23 = .ok (.iconst 0, 1) := by decide +kernel
theorem dX1_init_24 : decode cX1_init 24 = .ok (.putfield 22, 3) := by decide +kernel
theorem dX1_init_27 : decode cX1_init 27 = .ok (.return_, 1) := by decide +kernel
set_option maxRecDepth 100000 in
set_option maxHeartbeats 4000000 in
theorem c_X1_init (l : Launch) (D : va_G) (cy : Nat → Nat) (k : Nat) (ad : Nat → Nat) (F : Nat → va_E) (sz : Nat) (hF0 : F k = .inr (1, [.null, .int 0, .int 0, .int 0])) : Met l yX1_init (zw yX1_init cX1_init 1 none) (rmC 1 1 100) (zPc D cy (k + 1) ad F sz [.ref (ad k)]) (va_Qv (fun u : (Nat → Nat) × (Nat → va_E) => (∀ j, j < k + 1 → u.1 j = ad j) ∧ (∀ j, j < k → u.2 j = F j) ∧ RRd u.1 cy k u.2 ((fun _ => 0), 0, 0, 0)) (zBN D (k + 2) (zA (k + 1) ad sz)) (zA (k + 1) ad sz)) 1 100 (zA (k + 1) ad sz) := by
  refine zmet (by decide +kernel) (Nat.le_of_ble_eq_true rfl) (fun p e s m args below meth c ls hC hsz hZ hA hr hlocks hnm hl => ?_)
  have hC : zC p m c cX1_init 1 s args RX1 D cy := hC
  have hx := hC.1.1
  have hb := hC.1.2.1
  have hl : lv_has ls 1 [(0, .ref (ad k))] := hl
  have hin : meth.name = "<init>" := hnm
  obtain ⟨locs, hlo⟩ : ∃ z : List Loc, z = [] := ⟨_, rfl⟩
  rw [← hlo] at hZ ⊢
  obtain ⟨a0, ha0⟩ : ∃ a, ad k = a := ⟨_, rfl⟩
  rw [ha0] at hl
  refine lv_aload_n hx hb dX1_init_0 rfl (lv_at hl 0 rfl) ?_
  refine zobj hC oX1_3 hl.1 (Nat.le_of_ble_eq_true rfl) (Nat.le_of_ble_eq_true rfl) dX1_init_1 ?_
  refine lv_aload_n hx hb dX1_init_4 rfl (lv_at hl 0 rfl) ?_
  refine lv_bipush (v := 100) hx hb dX1_init_5 (by decide) ?_
  refine znewi (N := 100) hC hZ hA (gt_of 200 (by decide +kernel) rfl) (by decide) (by decide) (Nat.le_of_ble_eq_true rfl) (Nat.le_of_ble_eq_true rfl) (Nat.le_of_ble_eq_true rfl) dX1_init_7 (fun ad1 F1 had1 hF1 H hZ => ?_)
  have hZ : zH D (zA (k + 1) ad sz) s.heap (k + 2) ad1 F1 H locs := hZ
  refine W.widen (k := 1) (n := 100) (Nat.le_of_ble_eq_true rfl) (Nat.le_of_ble_eq_true rfl) ?_
  have h_1 := zne hF1 (by omega) hF0
  have ha_2 := (had1 k (by omega)).trans ha0
  obtain ⟨b0, hb0⟩ : ∃ a, ad1 (k + 1) = a := ⟨_, rfl⟩
  rw [hb0]
  have h_3 := zeq hF1
  refine zputFA (E := .inr (1, [.ref b0, .int 0, .int 0, .int 0])) ha_2 hC hZ hin pX1_9 (by omega) h_1 rfl rfl rfl (Nat.le_of_ble_eq_true rfl) dX1_init_9 (fun F2 hF2 H locs hZ => ?_)
  have h_4 := zeq hF2
  refine lv_aload_n hx hb dX1_init_12 rfl (lv_at hl 0 rfl) ?_
  refine lv_iconst (v := 0) hx hb dX1_init_13 (by decide) ?_
  refine zputA (E := .inr (1, [.ref b0, .int 0, .int 0, .int 0])) ha_2 hC hZ pX1_15 (by omega) h_4 rfl rfl rfl (Nat.le_of_ble_eq_true rfl) dX1_init_14 (fun F3 hF3 H locs hZ => ?_)
  have h_5 := zeq hF3
  refine lv_aload_n hx hb dX1_init_17 rfl (lv_at hl 0 rfl) ?_
  refine lv_iconst (v := 0) hx hb dX1_init_18 (by decide) ?_
  refine zputA (E := .inr (1, [.ref b0, .int 0, .int 0, .int 0])) ha_2 hC hZ pX1_19 (by omega) h_5 rfl rfl rfl (Nat.le_of_ble_eq_true rfl) dX1_init_19 (fun F4 hF4 H locs hZ => ?_)
  have h_6 := zeq hF4
  refine lv_aload_n hx hb dX1_init_22 rfl (lv_at hl 0 rfl) ?_
  refine lv_iconst (v := 0) hx hb dX1_init_23 (by decide) ?_
  refine zputA (E := .inr (1, [.ref b0, .int 0, .int 0, .int 0])) ha_2 hC hZ pX1_22 (by omega) h_6 rfl rfl rfl (Nat.le_of_ble_eq_true rfl) dX1_init_24 (fun F5 hF5 H locs hZ => ?_)
  have h_7 := zeq hF5
  have sn_5 : ∀ j, j < k + 2 → ¬ j = k → F5 j = F5 j ∧ ad1 j = ad1 j := fun j h g0 => ⟨rfl, rfl⟩
  have sn_4 : ∀ j, j < k + 2 → ¬ j = k → F5 j = F4 j ∧ ad1 j = ad1 j := fun j h g0 => ⟨(sn_5 j (by omega) g0).1.trans (znu hF5 (by omega)), (sn_5 j (by omega) g0).2.trans rfl⟩
  have sn_3 : ∀ j, j < k + 2 → ¬ j = k → F5 j = F3 j ∧ ad1 j = ad1 j := fun j h g0 => ⟨(sn_4 j (by omega) g0).1.trans (znu hF4 (by omega)), (sn_4 j (by omega) g0).2.trans rfl⟩
  have sn_2 : ∀ j, j < k + 2 → ¬ j = k → F5 j = F2 j ∧ ad1 j = ad1 j := fun j h g0 => ⟨(sn_3 j (by omega) g0).1.trans (znu hF3 (by omega)), (sn_3 j (by omega) g0).2.trans rfl⟩
  have sn_1 : ∀ j, j < k + 2 → ¬ j = k → F5 j = F1 j ∧ ad1 j = ad1 j := fun j h g0 => ⟨(sn_2 j (by omega) g0).1.trans (znu hF2 (by omega)), (sn_2 j (by omega) g0).2.trans rfl⟩
  have sn_0 : ∀ j, j < k → ¬ j = k → F5 j = F j ∧ ad1 j = ad j := fun j h g0 => ⟨(sn_1 j (by omega) g0).1.trans (znu hF1 (by omega)), (sn_1 j (by omega) g0).2.trans (had1 j (by omega))⟩
  have hq1 : ∀ j, j < k + 1 → ad1 j = ad j := fun j hj => by
    by_cases e : j = k
    · rw [e]; exact ha_2.trans ha0.symm
    · exact (sn_0 j (by omega) e).2
  have hq2 : ∀ j, j < k → F5 j = F j := fun j hj => (sn_0 j (by omega) (by omega)).1
  have hq3 : RRd ad1 cy k F5 ((fun _ => 0), 0, 0, 0) := ⟨(by rw [h_7]; unfold oReader; rw [show ad1 (k + 1) = b0 from hb0]), ((sn_1 (k + 1) (by omega) (by omega)).1.trans h_3)⟩
  exact zvretN hC hZ hr hlocks (φ := (fun u : (Nat → Nat) × (Nat → va_E) => (∀ j, j < k + 1 → u.1 j = ad j) ∧ (∀ j, j < k → u.2 j = F j) ∧ RRd u.1 cy k u.2 ((fun _ => 0), 0, 0, 0))) ⟨hq1, hq2, hq3⟩ dX1_init_27

theorem mX4_init : zMd yX4_init cX4_init 1 none 0 := ⟨by decide +kernel, gt_of 162 (by decide +kernel) rfl, gt_of 49 (by decide +kernel) rfl, by decide⟩
theorem dX4_init_0 : decode cX4_init 0 = .ok (.aload_n 0, 1) := by decide +kernel
theorem dX4_init_1 : decode cX4_init 1 = .ok (.invokespecial 3, 3) := by decide +kernel
theorem oX4_3 : zObj RX4 3 := ⟨gt_of 163 (by decide +kernel) rfl, gt_of 67 (by decide +kernel) rfl, gt_of 68 (by decide +kernel) rfl⟩
theorem dX4_init_4 : decode cX4_init 4 = .ok (.aload_n 0, 1) := by decide +kernel
theorem dX4_init_5 : decode cX4_init 5 = .ok (.iconst 0, 1) := by decide +kernel
theorem dX4_init_6 : decode cX4_init 6 = .ok (.putfield 11, 3) := by decide +kernel
theorem dX4_init_9 : decode cX4_init 9 = .ok (.aload_n 0, 1) := by decide +kernel
theorem nX4_15 : zNew RX4 15 5 2 [.int 0, .int 0] := ⟨RX5, TX5, tyX5, rfl, inX5, tyX5_ok, gt_of 164 (by decide +kernel) rfl, gt_of 165 (by decide +kernel) rfl, gt_of 50 (by decide +kernel) rfl, fun j hj => match j, hj with | 0, _ => rfl | 1, _ => rfl | j + 2, h => absurd h (by omega)⟩
theorem dX4_init_10 : decode cX4_init 10 = .ok (.new 15, 3) := by decide +kernel
theorem dX4_init_13 : decode cX4_init 13 = .ok (.dup, 1) := by decide +kernel
theorem dX4_init_14 : decode cX4_init 14 = .ok (.invokespecial 17, 3) := by decide +kernel
theorem kX4_17 : zLk RX4 17 yX5_init := Or.inr ⟨"ChainLeap", List.mem_of_getElem? (i := 166) (by decide +kernel)⟩
theorem iX4_17 : zInit RX4 17 yX5_init cX5_init 1 := ⟨mX5_init, rfl, gt_of 167 (by decide +kernel) rfl, kX4_17⟩
theorem pX4_18 : zFldP RX4 18 4 1 true (.object "ChainLeap$Tale") := ⟨RX4, TX4, 5, tyX4, rfl, inX4, by decide, rfl, Or.inl (gt_of 180 (by decide +kernel) rfl), tyX4_ok, nmX4, rfl, by decide +kernel, fun _ => rfl⟩
theorem dX4_init_17 : decode cX4_init 17 = .ok (.putfield 18, 3) := by decide +kernel
theorem dX4_init_20 : decode cX4_init 20 = .ok (.aload_n 0, 1) := by decide +kernel
theorem dX4_init_21 : decode cX4_init 21 = .ok (.iconst 0, 1) := by decide +kernel
theorem dX4_init_22 : decode cX4_init 22 = .ok (.putfield 22, 3) := by decide +kernel
theorem dX4_init_25 : decode cX4_init 25 = .ok (.aload_n 0, 1) := by decide +kernel
theorem dX4_init_26 : decode cX4_init 26 = .ok (.iconst 0, 1) := by decide +kernel
theorem dX4_init_27 : decode cX4_init 27 = .ok (.putfield 25, 3) := by decide +kernel
theorem dX4_init_30 : decode cX4_init 30 = .ok (.aload_n 0, 1) := by decide +kernel
theorem dX4_init_31 : decode cX4_init 31 = .ok (.bipush 100, 2) := by decide +kernel
theorem dX4_init_33 : decode cX4_init 33 = .ok (.newarray .int, 2) := by decide +kernel
theorem pX4_28 : zFldP RX4 28 4 4 true (.array .int) := ⟨RX4, TX4, 5, tyX4, rfl, inX4, by decide, rfl, Or.inl (gt_of 187 (by decide +kernel) rfl), tyX4_ok, nmX4, rfl, by decide +kernel, fun _ => rfl⟩
theorem dX4_init_35 : decode cX4_init 35 = .ok (.putfield 28, 3) := by decide +kernel
theorem dX4_init_38 : decode cX4_init 38 = .ok (.return_, 1) := by decide +kernel
set_option maxRecDepth 100000 in
set_option maxHeartbeats 4000000 in
theorem c_X4_init (l : Launch) (D : va_G) (cy : Nat → Nat) (k : Nat) (ad : Nat → Nat) (F : Nat → va_E) (sz : Nat) (hF0 : F k = .inr (4, [.int 0, .null, .int 0, .int 0, .null])) : Met l yX4_init (zw yX4_init cX4_init 1 none) (rmC 2 2 102) (zPc D cy (k + 1) ad F sz [.ref (ad k)]) (va_Qv (fun u : (Nat → Nat) × (Nat → va_E) => (∀ j, j < k + 1 → u.1 j = ad j) ∧ (∀ j, j < k → u.2 j = F j) ∧ RSh u.1 cy k u.2 sf0) (zBN D (k + 3) (zA (k + 1) ad sz)) (zA (k + 1) ad sz)) 2 102 (zA (k + 1) ad sz) := by
  refine zmet (by decide +kernel) (Nat.le_of_ble_eq_true rfl) (fun p e s m args below meth c ls hC hsz hZ hA hr hlocks hnm hl => ?_)
  have hC : zC p m c cX4_init 1 s args RX4 D cy := hC
  have hx := hC.1.1
  have hb := hC.1.2.1
  have hl : lv_has ls 1 [(0, .ref (ad k))] := hl
  have hin : meth.name = "<init>" := hnm
  obtain ⟨locs, hlo⟩ : ∃ z : List Loc, z = [] := ⟨_, rfl⟩
  rw [← hlo] at hZ ⊢
  obtain ⟨a0, ha0⟩ : ∃ a, ad k = a := ⟨_, rfl⟩
  rw [ha0] at hl
  refine lv_aload_n hx hb dX4_init_0 rfl (lv_at hl 0 rfl) ?_
  refine zobj hC oX4_3 hl.1 (Nat.le_of_ble_eq_true rfl) (Nat.le_of_ble_eq_true rfl) dX4_init_1 ?_
  refine lv_aload_n hx hb dX4_init_4 rfl (lv_at hl 0 rfl) ?_
  refine lv_iconst (v := 0) hx hb dX4_init_5 (by decide) ?_
  refine zputA (E := .inr (4, [.int 0, .null, .int 0, .int 0, .null])) ha0 hC hZ pX4_11 (by omega) hF0 rfl rfl rfl (Nat.le_of_ble_eq_true rfl) dX4_init_6 (fun F1 hF1 H locs hZ => ?_)
  have h_1 := zeq hF1
  refine lv_aload_n hx hb dX4_init_9 rfl (lv_at hl 0 rfl) ?_
  refine znew hC hZ hA nX4_15 (Nat.le_of_ble_eq_true rfl) (Nat.le_of_ble_eq_true rfl) dX4_init_10 (fun ad2 F2 had2 hF2 H hZ => ?_)
  have hZ : zH D (zA (k + 1) ad sz) s.heap (k + 2) ad2 F2 H locs := hZ
  refine W.widen (k := 1) (n := 2) (Nat.le_of_ble_eq_true rfl) (Nat.le_of_ble_eq_true rfl) ?_
  have h_2 := zne hF2 (by omega) h_1
  have ha_3 := (had2 k (by omega)).trans ha0
  obtain ⟨b0, hb0⟩ : ∃ a, ad2 (k + 1) = a := ⟨_, rfl⟩
  rw [hb0]
  have h_4 := zeq hF2
  refine lv_dup hx hb dX4_init_13 rfl ?_
  refine zgovC hZ hA (zrunI (rest := [.ref b0, .ref a0]) (k := k + 1) hb0 hC hZ (c_X5_init l D cy (k + 2) ad2 F2 H.size (k + 1) (by omega) h_4) iX4_17 (zRjC_of rfl) hl.1 (Nat.le_of_ble_eq_true rfl) dX4_init_14 ⟨(Nat.le_of_ble_eq_true rfl), (Nat.le_of_ble_eq_true rfl)⟩) (fun F3 hF3 H locs hZ => ?_)
  have hZ : zH D (zA (k + 1) ad sz) s.heap (k + 2) ad2 F3 H locs := hZ
  have h_5 := zne hF3 (by omega) h_2
  have h_6 : F3 (k + 1) = oTale (0, 0) := zeq hF3
  refine zputFA (E := .inr (4, [.int 0, .ref b0, .int 0, .int 0, .null])) ha_3 hC hZ hin pX4_18 (by omega) h_5 rfl rfl rfl (Nat.le_of_ble_eq_true rfl) dX4_init_17 (fun F4 hF4 H locs hZ => ?_)
  have h_7 := zeq hF4
  refine lv_aload_n hx hb dX4_init_20 rfl (lv_at hl 0 rfl) ?_
  refine lv_iconst (v := 0) hx hb dX4_init_21 (by decide) ?_
  refine zputA (E := .inr (4, [.int 0, .ref b0, .int 0, .int 0, .null])) ha_3 hC hZ pX4_22 (by omega) h_7 rfl rfl rfl (Nat.le_of_ble_eq_true rfl) dX4_init_22 (fun F5 hF5 H locs hZ => ?_)
  have h_8 := zeq hF5
  refine lv_aload_n hx hb dX4_init_25 rfl (lv_at hl 0 rfl) ?_
  refine lv_iconst (v := 0) hx hb dX4_init_26 (by decide) ?_
  refine zputA (E := .inr (4, [.int 0, .ref b0, .int 0, .int 0, .null])) ha_3 hC hZ pX4_25 (by omega) h_8 rfl rfl rfl (Nat.le_of_ble_eq_true rfl) dX4_init_27 (fun F6 hF6 H locs hZ => ?_)
  have h_9 := zeq hF6
  refine lv_aload_n hx hb dX4_init_30 rfl (lv_at hl 0 rfl) ?_
  refine lv_bipush (v := 100) hx hb dX4_init_31 (by decide) ?_
  refine znewi (N := 100) hC hZ hA (gt_of 200 (by decide +kernel) rfl) (by decide) (by decide) (Nat.le_of_ble_eq_true rfl) (Nat.le_of_ble_eq_true rfl) (Nat.le_of_ble_eq_true rfl) dX4_init_33 (fun ad7 F7 had7 hF7 H hZ => ?_)
  have hZ : zH D (zA (k + 1) ad sz) s.heap (k + 3) ad7 F7 H locs := hZ
  refine W.widen (k := 2) (n := 102) (Nat.le_of_ble_eq_true rfl) (Nat.le_of_ble_eq_true rfl) ?_
  have h_10 := zne hF7 (by omega) h_9
  have ha_11 := (had7 k (by omega)).trans ha_3
  have ha_12 := (had7 (k + 1) (by omega)).trans hb0
  obtain ⟨b1, hb1⟩ : ∃ a, ad7 (k + 2) = a := ⟨_, rfl⟩
  rw [hb1]
  have h_13 := zeq hF7
  refine zputFA (E := .inr (4, [.int 0, .ref b0, .int 0, .int 0, .ref b1])) ha_11 hC hZ hin pX4_28 (by omega) h_10 rfl rfl rfl (Nat.le_of_ble_eq_true rfl) dX4_init_35 (fun F8 hF8 H locs hZ => ?_)
  have h_14 := zeq hF8
  have sn_8 : ∀ j, j < k + 3 → ¬ j = k → F8 j = F8 j ∧ ad7 j = ad7 j := fun j h g0 => ⟨rfl, rfl⟩
  have sn_7 : ∀ j, j < k + 3 → ¬ j = k → F8 j = F7 j ∧ ad7 j = ad7 j := fun j h g0 => ⟨(sn_8 j (by omega) g0).1.trans (znu hF8 (by omega)), (sn_8 j (by omega) g0).2.trans rfl⟩
  have sn_6 : ∀ j, j < k + 2 → ¬ j = k → F8 j = F6 j ∧ ad7 j = ad2 j := fun j h g0 => ⟨(sn_7 j (by omega) g0).1.trans (znu hF7 (by omega)), (sn_7 j (by omega) g0).2.trans (had7 j (by omega))⟩
  have sn_5 : ∀ j, j < k + 2 → ¬ j = k → F8 j = F5 j ∧ ad7 j = ad2 j := fun j h g0 => ⟨(sn_6 j (by omega) g0).1.trans (znu hF6 (by omega)), (sn_6 j (by omega) g0).2.trans rfl⟩
  have sn_4 : ∀ j, j < k + 2 → ¬ j = k → F8 j = F4 j ∧ ad7 j = ad2 j := fun j h g0 => ⟨(sn_5 j (by omega) g0).1.trans (znu hF5 (by omega)), (sn_5 j (by omega) g0).2.trans rfl⟩
  have sn_3 : ∀ j, j < k + 2 → ¬ j = k → F8 j = F3 j ∧ ad7 j = ad2 j := fun j h g0 => ⟨(sn_4 j (by omega) g0).1.trans (znu hF4 (by omega)), (sn_4 j (by omega) g0).2.trans rfl⟩
  have sn_2 : ∀ j, j < k → ¬ j = k → F8 j = F2 j ∧ ad7 j = ad2 j := fun j h g0 => ⟨(sn_3 j (by omega) g0).1.trans (znu hF3 (by omega)), (sn_3 j (by omega) g0).2.trans rfl⟩
  have sn_1 : ∀ j, j < k → ¬ j = k → F8 j = F1 j ∧ ad7 j = ad j := fun j h g0 => ⟨(sn_2 j (by omega) g0).1.trans (znu hF2 (by omega)), (sn_2 j (by omega) g0).2.trans (had2 j (by omega))⟩
  have sn_0 : ∀ j, j < k → ¬ j = k → F8 j = F j ∧ ad7 j = ad j := fun j h g0 => ⟨(sn_1 j (by omega) g0).1.trans (znu hF1 (by omega)), (sn_1 j (by omega) g0).2.trans rfl⟩
  have hq1 : ∀ j, j < k + 1 → ad7 j = ad j := fun j hj => by
    by_cases e : j = k
    · rw [e]; exact ha_11.trans ha0.symm
    · exact (sn_0 j (by omega) e).2
  have hq2 : ∀ j, j < k → F8 j = F j := fun j hj => (sn_0 j (by omega) (by omega)).1
  have hq3 : RSh ad7 cy k F8 sf0 := ⟨(by rw [h_14]; unfold oShelf; rw [show ad7 (k + 1) = b0 from ha_12, show ad7 (k + 2) = b1 from hb1]; rfl), ((sn_3 (k + 1) (by omega) (by omega)).1.trans h_6), ((sn_7 (k + 2) (by omega) (by omega)).1.trans h_13)⟩
  exact zvretN hC hZ hr hlocks (φ := (fun u : (Nat → Nat) × (Nat → va_E) => (∀ j, j < k + 1 → u.1 j = ad j) ∧ (∀ j, j < k → u.2 j = F j) ∧ RSh u.1 cy k u.2 sf0)) ⟨hq1, hq2, hq3⟩ dX4_init_38

theorem mX2_init : zMd yX2_init cX2_init 2 none 0 := ⟨by decide +kernel, gt_of 73 (by decide +kernel) rfl, gt_of 46 (by decide +kernel) rfl, by decide⟩
theorem dX2_init_0 : decode cX2_init 0 = .ok (.aload_n 0, 1) := by decide +kernel
theorem dX2_init_1 : decode cX2_init 1 = .ok (.invokespecial 3, 3) := by decide +kernel
theorem oX2_3 : zObj RX2 3 := ⟨gt_of 74 (by decide +kernel) rfl, gt_of 67 (by decide +kernel) rfl, gt_of 68 (by decide +kernel) rfl⟩
theorem dX2_init_4 : decode cX2_init 4 = .ok (.aload_n 0, 1) := by decide +kernel
theorem nX2_9 : zNew RX2 9 3 4 [.int 0, .int 0, .int 0, .int 0] := ⟨RX3, TX3, tyX3, rfl, inX3, tyX3_ok, gt_of 75 (by decide +kernel) rfl, gt_of 76 (by decide +kernel) rfl, gt_of 47 (by decide +kernel) rfl, fun j hj => match j, hj with | 0, _ => rfl | 1, _ => rfl | 2, _ => rfl | 3, _ => rfl | j + 4, h => absurd h (by omega)⟩
theorem dX2_init_5 : decode cX2_init 5 = .ok (.new 9, 3) := by decide +kernel
theorem dX2_init_8 : decode cX2_init 8 = .ok (.dup, 1) := by decide +kernel
theorem dX2_init_9 : decode cX2_init 9 = .ok (.invokespecial 11, 3) := by decide +kernel
theorem kX2_11 : zLk RX2 11 yX3_init := Or.inr ⟨"ChainLeap", List.mem_of_getElem? (i := 77) (by decide +kernel)⟩
theorem iX2_11 : zInit RX2 11 yX3_init cX3_init 1 := ⟨mX3_init, rfl, gt_of 78 (by decide +kernel) rfl, kX2_11⟩
theorem pX2_12 : zFldP RX2 12 2 0 true (.object "ChainLeap$Setting") := ⟨RX2, TX2, 5, tyX2, rfl, inX2, by decide, rfl, Or.inl (gt_of 136 (by decide +kernel) rfl), tyX2_ok, nmX2, rfl, by decide +kernel, fun _ => rfl⟩
theorem dX2_init_12 : decode cX2_init 12 = .ok (.putfield 12, 3) := by decide +kernel
theorem dX2_init_15 : decode cX2_init 15 = .ok (.aload_n 0, 1) := by decide +kernel
theorem dX2_init_16 : decode cX2_init 16 = .ok (.sipush 1000, 3) := by decide +kernel
theorem dX2_init_19 : decode cX2_init 19 = .ok (.putfield 18, 3) := by decide +kernel
theorem dX2_init_22 : decode cX2_init 22 = .ok (.aload_n 0, 1) := by decide +kernel
theorem dX2_init_23 : decode cX2_init 23 = .ok (.bipush 8, 2) := by decide +kernel
theorem dX2_init_25 : decode cX2_init 25 = .ok (.anewarray 9, 3) := by decide +kernel
theorem pX2_22 : zFldP RX2 22 2 2 true (.array (.object "ChainLeap$Setting")) := ⟨RX2, TX2, 5, tyX2, rfl, inX2, by decide, rfl, Or.inl (gt_of 140 (by decide +kernel) rfl), tyX2_ok, nmX2, rfl, by decide +kernel, fun _ => rfl⟩
theorem dX2_init_28 : decode cX2_init 28 = .ok (.putfield 22, 3) := by decide +kernel
theorem dX2_init_31 : decode cX2_init 31 = .ok (.aload_n 0, 1) := by decide +kernel
theorem dX2_init_32 : decode cX2_init 32 = .ok (.iconst 0, 1) := by decide +kernel
theorem dX2_init_33 : decode cX2_init 33 = .ok (.putfield 26, 3) := by decide +kernel
theorem dX2_init_36 : decode cX2_init 36 = .ok (.aload_n 0, 1) := by decide +kernel
theorem nX2_29 : zNew RX2 29 0 5 [.int 0, .int 0, .int 0, .int 0, .int 0] := ⟨RX0, TX0, tyX0, rfl, inX0, tyX0_ok, gt_of 108 (by decide +kernel) rfl, gt_of 109 (by decide +kernel) rfl, gt_of 48 (by decide +kernel) rfl, fun j hj => match j, hj with | 0, _ => rfl | 1, _ => rfl | 2, _ => rfl | 3, _ => rfl | 4, _ => rfl | j + 5, h => absurd h (by omega)⟩
theorem dX2_init_37 : decode cX2_init 37 = .ok (.new 29, 3) := by decide +kernel
theorem dX2_init_40 : decode cX2_init 40 = .ok (.dup, 1) := by decide +kernel
theorem dX2_init_41 : decode cX2_init 41 = .ok (.invokespecial 31, 3) := by decide +kernel
theorem kX2_31 : zLk RX2 31 yX0_init := Or.inr ⟨"ChainLeap", List.mem_of_getElem? (i := 110) (by decide +kernel)⟩
theorem iX2_31 : zInit RX2 31 yX0_init cX0_init 1 := ⟨mX0_init, rfl, gt_of 111 (by decide +kernel) rfl, kX2_31⟩
theorem pX2_32 : zFldP RX2 32 2 4 true (.object "ChainLeap$Course") := ⟨RX2, TX2, 5, tyX2, rfl, inX2, by decide, rfl, Or.inl (gt_of 144 (by decide +kernel) rfl), tyX2_ok, nmX2, rfl, by decide +kernel, fun _ => rfl⟩
theorem dX2_init_44 : decode cX2_init 44 = .ok (.putfield 32, 3) := by decide +kernel
theorem dX2_init_47 : decode cX2_init 47 = .ok (.iconst 0, 1) := by decide +kernel
theorem dX2_init_48 : decode cX2_init 48 = .ok (.istore_n 1, 1) := by decide +kernel
theorem dX2_init_49 : decode cX2_init 49 = .ok (.iload_n 1, 1) := by decide +kernel
theorem dX2_init_50 : decode cX2_init 50 = .ok (.bipush 8, 2) := by decide +kernel
theorem dX2_init_52 : decode cX2_init 52 = .ok (.if_icmp .ge 22, 3) := by decide +kernel
theorem dX2_init_55 : decode cX2_init 55 = .ok (.aload_n 0, 1) := by decide +kernel
theorem dX2_init_56 : decode cX2_init 56 = .ok (.getfield 22, 3) := by decide +kernel
theorem dX2_init_59 : decode cX2_init 59 = .ok (.iload_n 1, 1) := by decide +kernel
theorem dX2_init_60 : decode cX2_init 60 = .ok (.new 9, 3) := by decide +kernel
theorem dX2_init_63 : decode cX2_init 63 = .ok (.dup, 1) := by decide +kernel
theorem dX2_init_64 : decode cX2_init 64 = .ok (.invokespecial 11, 3) := by decide +kernel
theorem dX2_init_67 : decode cX2_init 67 = .ok (.aastore, 1) := by decide +kernel
theorem dX2_init_68 : decode cX2_init 68 = .ok (.iinc 1 1, 3) := by decide +kernel
theorem dX2_init_71 : decode cX2_init 71 = .ok (.goto (-22), 3) := by decide +kernel
theorem dX2_init_74 : decode cX2_init 74 = .ok (.return_, 1) := by decide +kernel
set_option maxRecDepth 100000 in
set_option maxHeartbeats 4000000 in
theorem c_X2_init (l : Launch) (D : va_G) (cy : Nat → Nat) (k : Nat) (ad : Nat → Nat) (F : Nat → va_E) (sz : Nat) (hF0 : F k = .inr (2, [.null, .int 0, .null, .int 0, .null])) : Met l yX2_init (zw yX2_init cX2_init 2 none) (rmC 2 11 49) (zPc D cy (k + 1) ad F sz [.ref (ad k)]) (va_Qv (fun u : (Nat → Nat) × (Nat → va_E) => (∀ j, j < k + 1 → u.1 j = ad j) ∧ (∀ j, j < k → u.2 j = F j) ∧ RS u.1 cy k u.2 sc0) (zBN D (k + 12) (zA (k + 1) ad sz)) (zA (k + 1) ad sz)) 11 49 (zA (k + 1) ad sz) := by
  refine zmet (by decide +kernel) (Nat.le_of_ble_eq_true rfl) (fun p e s m args below meth c ls hC hsz hZ hA hr hlocks hnm hl => ?_)
  have hC : zC p m c cX2_init 2 s args RX2 D cy := hC
  have hx := hC.1.1
  have hb := hC.1.2.1
  have hl : lv_has ls 2 [(0, .ref (ad k))] := hl
  have hin : meth.name = "<init>" := hnm
  obtain ⟨locs, hlo⟩ : ∃ z : List Loc, z = [] := ⟨_, rfl⟩
  rw [← hlo] at hZ ⊢
  obtain ⟨a0, ha0⟩ : ∃ a, ad k = a := ⟨_, rfl⟩
  rw [ha0] at hl
  refine lv_aload_n hx hb dX2_init_0 rfl (lv_at hl 0 rfl) ?_
  refine zobj hC oX2_3 hl.1 (Nat.le_of_ble_eq_true rfl) (Nat.le_of_ble_eq_true rfl) dX2_init_1 ?_
  refine lv_aload_n hx hb dX2_init_4 rfl (lv_at hl 0 rfl) ?_
  refine znew hC hZ hA nX2_9 (Nat.le_of_ble_eq_true rfl) (Nat.le_of_ble_eq_true rfl) dX2_init_5 (fun ad1 F1 had1 hF1 H hZ => ?_)
  have hZ : zH D (zA (k + 1) ad sz) s.heap (k + 2) ad1 F1 H locs := hZ
  refine W.widen (k := 1) (n := 4) (Nat.le_of_ble_eq_true rfl) (Nat.le_of_ble_eq_true rfl) ?_
  have h_1 := zne hF1 (by omega) hF0
  have ha_2 := (had1 k (by omega)).trans ha0
  obtain ⟨b0, hb0⟩ : ∃ a, ad1 (k + 1) = a := ⟨_, rfl⟩
  rw [hb0]
  have h_3 := zeq hF1
  refine lv_dup hx hb dX2_init_8 rfl ?_
  refine zgovC hZ hA (zrunI (rest := [.ref b0, .ref a0]) (k := k + 1) hb0 hC hZ (c_X3_init l D cy (k + 2) ad1 F1 H.size (k + 1) (by omega) h_3) iX2_11 (zRjC_of rfl) hl.1 (Nat.le_of_ble_eq_true rfl) dX2_init_9 ⟨(Nat.le_of_ble_eq_true rfl), (Nat.le_of_ble_eq_true rfl)⟩) (fun F2 hF2 H locs hZ => ?_)
  have hZ : zH D (zA (k + 1) ad sz) s.heap (k + 2) ad1 F2 H locs := hZ
  have h_4 := zne hF2 (by omega) h_1
  have h_5 : F2 (k + 1) = oSetting (50, 20, 0, 100) := zeq hF2
  refine zputFA (E := .inr (2, [.ref b0, .int 0, .null, .int 0, .null])) ha_2 hC hZ hin pX2_12 (by omega) h_4 rfl rfl rfl (Nat.le_of_ble_eq_true rfl) dX2_init_12 (fun F3 hF3 H locs hZ => ?_)
  have h_6 := zeq hF3
  refine lv_aload_n hx hb dX2_init_15 rfl (lv_at hl 0 rfl) ?_
  refine lv_sipush (v := 1000) hx hb dX2_init_16 (by decide) ?_
  refine zputA (E := .inr (2, [.ref b0, .int 1000, .null, .int 0, .null])) ha_2 hC hZ pX2_18 (by omega) h_6 rfl rfl rfl (Nat.le_of_ble_eq_true rfl) dX2_init_19 (fun F4 hF4 H locs hZ => ?_)
  have h_7 := zeq hF4
  refine lv_aload_n hx hb dX2_init_22 rfl (lv_at hl 0 rfl) ?_
  refine lv_bipush (v := 8) hx hb dX2_init_23 (by decide) ?_
  refine znewq (t := 2) (N := 8) (C := RX3) hC hZ hA rfl (gt_of 75 (by decide +kernel) rfl) (List.mem_of_getElem? (i := 107) (by decide +kernel)) (by decide) (by decide) (Nat.le_of_ble_eq_true rfl) (Nat.le_of_ble_eq_true rfl) (Nat.le_of_ble_eq_true rfl) dX2_init_25 (fun ad5 F5 had5 hF5 H hZ => ?_)
  have hZ : zH D (zA (k + 1) ad sz) s.heap (k + 3) ad5 F5 H locs := hZ
  refine W.widen (k := 2) (n := 12) (Nat.le_of_ble_eq_true rfl) (Nat.le_of_ble_eq_true rfl) ?_
  have h_8 := zne hF5 (by omega) h_7
  have ha_9 := (had5 k (by omega)).trans ha_2
  have ha_10 := (had5 (k + 1) (by omega)).trans hb0
  obtain ⟨b1, hb1⟩ : ∃ a, ad5 (k + 2) = a := ⟨_, rfl⟩
  rw [hb1]
  have h_11 := zeq hF5
  refine zputFA (E := .inr (2, [.ref b0, .int 1000, .ref b1, .int 0, .null])) ha_9 hC hZ hin pX2_22 (by omega) h_8 rfl rfl rfl (Nat.le_of_ble_eq_true rfl) dX2_init_28 (fun F6 hF6 H locs hZ => ?_)
  have h_12 := zne hF6 (by omega) h_11
  have h_13 := zeq hF6
  refine lv_aload_n hx hb dX2_init_31 rfl (lv_at hl 0 rfl) ?_
  refine lv_iconst (v := 0) hx hb dX2_init_32 (by decide) ?_
  refine zputA (E := .inr (2, [.ref b0, .int 1000, .ref b1, .int 0, .null])) ha_9 hC hZ pX2_26 (by omega) h_13 rfl rfl rfl (Nat.le_of_ble_eq_true rfl) dX2_init_33 (fun F7 hF7 H locs hZ => ?_)
  have h_14 := zne hF7 (by omega) h_12
  have h_15 := zeq hF7
  refine lv_aload_n hx hb dX2_init_36 rfl (lv_at hl 0 rfl) ?_
  refine znew hC hZ hA nX2_29 (Nat.le_of_ble_eq_true rfl) (Nat.le_of_ble_eq_true rfl) dX2_init_37 (fun ad8 F8 had8 hF8 H hZ => ?_)
  have hZ : zH D (zA (k + 1) ad sz) s.heap (k + 4) ad8 F8 H locs := hZ
  refine W.widen (k := 3) (n := 17) (Nat.le_of_ble_eq_true rfl) (Nat.le_of_ble_eq_true rfl) ?_
  have h_16 := zne hF8 (by omega) h_15
  have h_17 := zne hF8 (by omega) h_14
  have ha_18 := (had8 k (by omega)).trans ha_9
  have ha_19 := (had8 (k + 1) (by omega)).trans ha_10
  have ha_20 := (had8 (k + 2) (by omega)).trans hb1
  obtain ⟨b2, hb2⟩ : ∃ a, ad8 (k + 3) = a := ⟨_, rfl⟩
  rw [hb2]
  have h_21 := zeq hF8
  refine lv_dup hx hb dX2_init_40 rfl ?_
  refine zgovC hZ hA (zrunI (rest := [.ref b2, .ref a0]) (k := k + 3) hb2 hC hZ (c_X0_init l D cy (k + 4) ad8 F8 H.size (k + 3) (by omega) h_21) iX2_31 (zRjC_of rfl) hl.1 (Nat.le_of_ble_eq_true rfl) dX2_init_41 ⟨(Nat.le_of_ble_eq_true rfl), (Nat.le_of_ble_eq_true rfl)⟩) (fun F9 hF9 H locs hZ => ?_)
  have hZ : zH D (zA (k + 1) ad sz) s.heap (k + 4) ad8 F9 H locs := hZ
  have h_22 := zne hF9 (by omega) h_16
  have h_23 := zne hF9 (by omega) h_17
  have h_24 : F9 (k + 3) = oCourse (0, 0, 0, 0, 0) := zeq hF9
  refine zputFA (E := .inr (2, [.ref b0, .int 1000, .ref b1, .int 0, .ref b2])) ha_18 hC hZ hin pX2_32 (by omega) h_22 rfl rfl rfl (Nat.le_of_ble_eq_true rfl) dX2_init_44 (fun F10 hF10 H locs hZ => ?_)
  have h_25 := zne hF10 (by omega) h_23
  have h_26 := zeq hF10
  refine lv_iconst (v := 0) hx hb dX2_init_47 (by decide) ?_
  refine lv_istore_n (lv' := [(1, .int 0), (0, .ref a0)]) hx hb dX2_init_48 rfl hl (by decide) rfl (fun ls hl => ?_)
  refine lv_iload_n hx hb dX2_init_49 rfl (lv_at hl 0 rfl) ?_
  refine lv_bipush (v := 8) hx hb dX2_init_50 (by decide) ?_
  refine lv_icmp_ge (tgt := 74) hx hb dX2_init_52 (by decide) (fun h => absurd (show (8 : Int32) ≤ 0 from h) (by decide)) (fun _ => ?_)
  refine lv_aload_n hx hb dX2_init_55 rfl (lv_at hl 1 rfl) ?_
  refine zgetA ha_18 hC hZ fX2_22 (by omega) h_26 rfl dX2_init_56 ?_
  refine lv_iload_n hx hb dX2_init_59 rfl (lv_at hl 0 rfl) ?_
  refine znew hC hZ hA nX2_9 (Nat.le_of_ble_eq_true rfl) (Nat.le_of_ble_eq_true rfl) dX2_init_60 (fun ad11 F11 had11 hF11 H hZ => ?_)
  have hZ : zH D (zA (k + 1) ad sz) s.heap (k + 5) ad11 F11 H locs := hZ
  refine W.widen (k := 4) (n := 21) (Nat.le_of_ble_eq_true rfl) (Nat.le_of_ble_eq_true rfl) ?_
  have h_27 := zne hF11 (by omega) h_26
  have h_28 := zne hF11 (by omega) h_25
  have ha_29 := (had11 k (by omega)).trans ha_18
  have ha_30 := (had11 (k + 1) (by omega)).trans ha_19
  have ha_31 := (had11 (k + 2) (by omega)).trans ha_20
  have ha_32 := (had11 (k + 3) (by omega)).trans hb2
  obtain ⟨b3, hb3⟩ : ∃ a, ad11 (k + 4) = a := ⟨_, rfl⟩
  rw [hb3]
  have h_33 := zeq hF11
  refine lv_dup hx hb dX2_init_63 rfl ?_
  refine zgovC hZ hA (zrunI (rest := [.ref b3, .int 0, .ref b1]) (k := k + 4) hb3 hC hZ (c_X3_init l D cy (k + 5) ad11 F11 H.size (k + 4) (by omega) h_33) iX2_11 (zRjC_of rfl) hl.1 (Nat.le_of_ble_eq_true rfl) dX2_init_64 ⟨(Nat.le_of_ble_eq_true rfl), (Nat.le_of_ble_eq_true rfl)⟩) (fun F12 hF12 H locs hZ => ?_)
  have hZ : zH D (zA (k + 1) ad sz) s.heap (k + 5) ad11 F12 H locs := hZ
  have h_34 := zne hF12 (by omega) h_27
  have h_35 := zne hF12 (by omega) h_28
  have h_36 : F12 (k + 4) = oSetting (50, 20, 0, 100) := zeq hF12
  refine zastqC (x := 0) (t := 2) (C := RX3) (T := TX3) (N0 := 4) ha_31 hb3 hC hZ (by omega) (by omega) h_35 rfl h_36 rfl (by decide) (by decide) (by decide) dX2_init_67 (fun F13 hF13 H locs hZ => ?_)
  have h_37 := zne hF13 (by omega) h_34
  have h_38 : F13 (k + 2) = oRefs cy 2 8 (va_up (fun _ => none) 0 (some b3)) := zeq hF13
  refine lv_iinc (v := 1) (lv' := [(1, .int 1), (0, .ref a0)]) hx hb dX2_init_68 hl (k := 0) rfl (by decide) (by decide) rfl (fun ls hl => ?_)
  refine lv_goto (tgt := 49) hx hb dX2_init_71 (by decide) ?_
  refine lv_iload_n hx hb dX2_init_49 rfl (lv_at hl 0 rfl) ?_
  refine lv_bipush (v := 8) hx hb dX2_init_50 (by decide) ?_
  refine lv_icmp_ge (tgt := 74) hx hb dX2_init_52 (by decide) (fun h => absurd (show (8 : Int32) ≤ 1 from h) (by decide)) (fun _ => ?_)
  refine lv_aload_n hx hb dX2_init_55 rfl (lv_at hl 1 rfl) ?_
  refine zgetA ha_29 hC hZ fX2_22 (by omega) h_37 rfl dX2_init_56 ?_
  refine lv_iload_n hx hb dX2_init_59 rfl (lv_at hl 0 rfl) ?_
  refine znew hC hZ hA nX2_9 (Nat.le_of_ble_eq_true rfl) (Nat.le_of_ble_eq_true rfl) dX2_init_60 (fun ad14 F14 had14 hF14 H hZ => ?_)
  have hZ : zH D (zA (k + 1) ad sz) s.heap (k + 6) ad14 F14 H locs := hZ
  refine W.widen (k := 5) (n := 25) (Nat.le_of_ble_eq_true rfl) (Nat.le_of_ble_eq_true rfl) ?_
  have h_39 := zne hF14 (by omega) h_37
  have h_40 := zne hF14 (by omega) h_38
  have ha_41 := (had14 k (by omega)).trans ha_29
  have ha_42 := (had14 (k + 1) (by omega)).trans ha_30
  have ha_43 := (had14 (k + 2) (by omega)).trans ha_31
  have ha_44 := (had14 (k + 3) (by omega)).trans ha_32
  have ha_45 := (had14 (k + 4) (by omega)).trans hb3
  obtain ⟨b4, hb4⟩ : ∃ a, ad14 (k + 5) = a := ⟨_, rfl⟩
  rw [hb4]
  have h_46 := zeq hF14
  refine lv_dup hx hb dX2_init_63 rfl ?_
  refine zgovC hZ hA (zrunI (rest := [.ref b4, .int 1, .ref b1]) (k := k + 5) hb4 hC hZ (c_X3_init l D cy (k + 6) ad14 F14 H.size (k + 5) (by omega) h_46) iX2_11 (zRjC_of rfl) hl.1 (Nat.le_of_ble_eq_true rfl) dX2_init_64 ⟨(Nat.le_of_ble_eq_true rfl), (Nat.le_of_ble_eq_true rfl)⟩) (fun F15 hF15 H locs hZ => ?_)
  have hZ : zH D (zA (k + 1) ad sz) s.heap (k + 6) ad14 F15 H locs := hZ
  have h_47 := zne hF15 (by omega) h_39
  have h_48 := zne hF15 (by omega) h_40
  have h_49 : F15 (k + 5) = oSetting (50, 20, 0, 100) := zeq hF15
  refine zastqC (x := 1) (t := 2) (C := RX3) (T := TX3) (N0 := 4) ha_43 hb4 hC hZ (by omega) (by omega) h_48 rfl h_49 rfl (by decide) (by decide) (by decide) dX2_init_67 (fun F16 hF16 H locs hZ => ?_)
  have h_50 := zne hF16 (by omega) h_47
  have h_51 : F16 (k + 2) = oRefs cy 2 8 (va_up (va_up (fun _ => none) 0 (some b3)) 1 (some b4)) := zeq hF16
  refine lv_iinc (v := 2) (lv' := [(1, .int 2), (0, .ref a0)]) hx hb dX2_init_68 hl (k := 0) rfl (by decide) (by decide) rfl (fun ls hl => ?_)
  refine lv_goto (tgt := 49) hx hb dX2_init_71 (by decide) ?_
  refine lv_iload_n hx hb dX2_init_49 rfl (lv_at hl 0 rfl) ?_
  refine lv_bipush (v := 8) hx hb dX2_init_50 (by decide) ?_
  refine lv_icmp_ge (tgt := 74) hx hb dX2_init_52 (by decide) (fun h => absurd (show (8 : Int32) ≤ 2 from h) (by decide)) (fun _ => ?_)
  refine lv_aload_n hx hb dX2_init_55 rfl (lv_at hl 1 rfl) ?_
  refine zgetA ha_41 hC hZ fX2_22 (by omega) h_50 rfl dX2_init_56 ?_
  refine lv_iload_n hx hb dX2_init_59 rfl (lv_at hl 0 rfl) ?_
  refine znew hC hZ hA nX2_9 (Nat.le_of_ble_eq_true rfl) (Nat.le_of_ble_eq_true rfl) dX2_init_60 (fun ad17 F17 had17 hF17 H hZ => ?_)
  have hZ : zH D (zA (k + 1) ad sz) s.heap (k + 7) ad17 F17 H locs := hZ
  refine W.widen (k := 6) (n := 29) (Nat.le_of_ble_eq_true rfl) (Nat.le_of_ble_eq_true rfl) ?_
  have h_52 := zne hF17 (by omega) h_50
  have h_53 := zne hF17 (by omega) h_51
  have ha_54 := (had17 k (by omega)).trans ha_41
  have ha_55 := (had17 (k + 1) (by omega)).trans ha_42
  have ha_56 := (had17 (k + 2) (by omega)).trans ha_43
  have ha_57 := (had17 (k + 3) (by omega)).trans ha_44
  have ha_58 := (had17 (k + 4) (by omega)).trans ha_45
  have ha_59 := (had17 (k + 5) (by omega)).trans hb4
  obtain ⟨b5, hb5⟩ : ∃ a, ad17 (k + 6) = a := ⟨_, rfl⟩
  rw [hb5]
  have h_60 := zeq hF17
  refine lv_dup hx hb dX2_init_63 rfl ?_
  refine zgovC hZ hA (zrunI (rest := [.ref b5, .int 2, .ref b1]) (k := k + 6) hb5 hC hZ (c_X3_init l D cy (k + 7) ad17 F17 H.size (k + 6) (by omega) h_60) iX2_11 (zRjC_of rfl) hl.1 (Nat.le_of_ble_eq_true rfl) dX2_init_64 ⟨(Nat.le_of_ble_eq_true rfl), (Nat.le_of_ble_eq_true rfl)⟩) (fun F18 hF18 H locs hZ => ?_)
  have hZ : zH D (zA (k + 1) ad sz) s.heap (k + 7) ad17 F18 H locs := hZ
  have h_61 := zne hF18 (by omega) h_52
  have h_62 := zne hF18 (by omega) h_53
  have h_63 : F18 (k + 6) = oSetting (50, 20, 0, 100) := zeq hF18
  refine zastqC (x := 2) (t := 2) (C := RX3) (T := TX3) (N0 := 4) ha_56 hb5 hC hZ (by omega) (by omega) h_62 rfl h_63 rfl (by decide) (by decide) (by decide) dX2_init_67 (fun F19 hF19 H locs hZ => ?_)
  have h_64 := zne hF19 (by omega) h_61
  have h_65 : F19 (k + 2) = oRefs cy 2 8 (va_up (va_up (va_up (fun _ => none) 0 (some b3)) 1 (some b4)) 2 (some b5)) := zeq hF19
  refine lv_iinc (v := 3) (lv' := [(1, .int 3), (0, .ref a0)]) hx hb dX2_init_68 hl (k := 0) rfl (by decide) (by decide) rfl (fun ls hl => ?_)
  refine lv_goto (tgt := 49) hx hb dX2_init_71 (by decide) ?_
  refine lv_iload_n hx hb dX2_init_49 rfl (lv_at hl 0 rfl) ?_
  refine lv_bipush (v := 8) hx hb dX2_init_50 (by decide) ?_
  refine lv_icmp_ge (tgt := 74) hx hb dX2_init_52 (by decide) (fun h => absurd (show (8 : Int32) ≤ 3 from h) (by decide)) (fun _ => ?_)
  refine lv_aload_n hx hb dX2_init_55 rfl (lv_at hl 1 rfl) ?_
  refine zgetA ha_54 hC hZ fX2_22 (by omega) h_64 rfl dX2_init_56 ?_
  refine lv_iload_n hx hb dX2_init_59 rfl (lv_at hl 0 rfl) ?_
  refine znew hC hZ hA nX2_9 (Nat.le_of_ble_eq_true rfl) (Nat.le_of_ble_eq_true rfl) dX2_init_60 (fun ad20 F20 had20 hF20 H hZ => ?_)
  have hZ : zH D (zA (k + 1) ad sz) s.heap (k + 8) ad20 F20 H locs := hZ
  refine W.widen (k := 7) (n := 33) (Nat.le_of_ble_eq_true rfl) (Nat.le_of_ble_eq_true rfl) ?_
  have h_66 := zne hF20 (by omega) h_64
  have h_67 := zne hF20 (by omega) h_65
  have ha_68 := (had20 k (by omega)).trans ha_54
  have ha_69 := (had20 (k + 1) (by omega)).trans ha_55
  have ha_70 := (had20 (k + 2) (by omega)).trans ha_56
  have ha_71 := (had20 (k + 3) (by omega)).trans ha_57
  have ha_72 := (had20 (k + 4) (by omega)).trans ha_58
  have ha_73 := (had20 (k + 5) (by omega)).trans ha_59
  have ha_74 := (had20 (k + 6) (by omega)).trans hb5
  obtain ⟨b6, hb6⟩ : ∃ a, ad20 (k + 7) = a := ⟨_, rfl⟩
  rw [hb6]
  have h_75 := zeq hF20
  refine lv_dup hx hb dX2_init_63 rfl ?_
  refine zgovC hZ hA (zrunI (rest := [.ref b6, .int 3, .ref b1]) (k := k + 7) hb6 hC hZ (c_X3_init l D cy (k + 8) ad20 F20 H.size (k + 7) (by omega) h_75) iX2_11 (zRjC_of rfl) hl.1 (Nat.le_of_ble_eq_true rfl) dX2_init_64 ⟨(Nat.le_of_ble_eq_true rfl), (Nat.le_of_ble_eq_true rfl)⟩) (fun F21 hF21 H locs hZ => ?_)
  have hZ : zH D (zA (k + 1) ad sz) s.heap (k + 8) ad20 F21 H locs := hZ
  have h_76 := zne hF21 (by omega) h_66
  have h_77 := zne hF21 (by omega) h_67
  have h_78 : F21 (k + 7) = oSetting (50, 20, 0, 100) := zeq hF21
  refine zastqC (x := 3) (t := 2) (C := RX3) (T := TX3) (N0 := 4) ha_70 hb6 hC hZ (by omega) (by omega) h_77 rfl h_78 rfl (by decide) (by decide) (by decide) dX2_init_67 (fun F22 hF22 H locs hZ => ?_)
  have h_79 := zne hF22 (by omega) h_76
  have h_80 : F22 (k + 2) = oRefs cy 2 8 (va_up (va_up (va_up (va_up (fun _ => none) 0 (some b3)) 1 (some b4)) 2 (some b5)) 3 (some b6)) := zeq hF22
  refine lv_iinc (v := 4) (lv' := [(1, .int 4), (0, .ref a0)]) hx hb dX2_init_68 hl (k := 0) rfl (by decide) (by decide) rfl (fun ls hl => ?_)
  refine lv_goto (tgt := 49) hx hb dX2_init_71 (by decide) ?_
  refine lv_iload_n hx hb dX2_init_49 rfl (lv_at hl 0 rfl) ?_
  refine lv_bipush (v := 8) hx hb dX2_init_50 (by decide) ?_
  refine lv_icmp_ge (tgt := 74) hx hb dX2_init_52 (by decide) (fun h => absurd (show (8 : Int32) ≤ 4 from h) (by decide)) (fun _ => ?_)
  refine lv_aload_n hx hb dX2_init_55 rfl (lv_at hl 1 rfl) ?_
  refine zgetA ha_68 hC hZ fX2_22 (by omega) h_79 rfl dX2_init_56 ?_
  refine lv_iload_n hx hb dX2_init_59 rfl (lv_at hl 0 rfl) ?_
  refine znew hC hZ hA nX2_9 (Nat.le_of_ble_eq_true rfl) (Nat.le_of_ble_eq_true rfl) dX2_init_60 (fun ad23 F23 had23 hF23 H hZ => ?_)
  have hZ : zH D (zA (k + 1) ad sz) s.heap (k + 9) ad23 F23 H locs := hZ
  refine W.widen (k := 8) (n := 37) (Nat.le_of_ble_eq_true rfl) (Nat.le_of_ble_eq_true rfl) ?_
  have h_81 := zne hF23 (by omega) h_79
  have h_82 := zne hF23 (by omega) h_80
  have ha_83 := (had23 k (by omega)).trans ha_68
  have ha_84 := (had23 (k + 1) (by omega)).trans ha_69
  have ha_85 := (had23 (k + 2) (by omega)).trans ha_70
  have ha_86 := (had23 (k + 3) (by omega)).trans ha_71
  have ha_87 := (had23 (k + 4) (by omega)).trans ha_72
  have ha_88 := (had23 (k + 5) (by omega)).trans ha_73
  have ha_89 := (had23 (k + 6) (by omega)).trans ha_74
  have ha_90 := (had23 (k + 7) (by omega)).trans hb6
  obtain ⟨b7, hb7⟩ : ∃ a, ad23 (k + 8) = a := ⟨_, rfl⟩
  rw [hb7]
  have h_91 := zeq hF23
  refine lv_dup hx hb dX2_init_63 rfl ?_
  refine zgovC hZ hA (zrunI (rest := [.ref b7, .int 4, .ref b1]) (k := k + 8) hb7 hC hZ (c_X3_init l D cy (k + 9) ad23 F23 H.size (k + 8) (by omega) h_91) iX2_11 (zRjC_of rfl) hl.1 (Nat.le_of_ble_eq_true rfl) dX2_init_64 ⟨(Nat.le_of_ble_eq_true rfl), (Nat.le_of_ble_eq_true rfl)⟩) (fun F24 hF24 H locs hZ => ?_)
  have hZ : zH D (zA (k + 1) ad sz) s.heap (k + 9) ad23 F24 H locs := hZ
  have h_92 := zne hF24 (by omega) h_81
  have h_93 := zne hF24 (by omega) h_82
  have h_94 : F24 (k + 8) = oSetting (50, 20, 0, 100) := zeq hF24
  refine zastqC (x := 4) (t := 2) (C := RX3) (T := TX3) (N0 := 4) ha_85 hb7 hC hZ (by omega) (by omega) h_93 rfl h_94 rfl (by decide) (by decide) (by decide) dX2_init_67 (fun F25 hF25 H locs hZ => ?_)
  have h_95 := zne hF25 (by omega) h_92
  have h_96 : F25 (k + 2) = oRefs cy 2 8 (va_up (va_up (va_up (va_up (va_up (fun _ => none) 0 (some b3)) 1 (some b4)) 2 (some b5)) 3 (some b6)) 4 (some b7)) := zeq hF25
  refine lv_iinc (v := 5) (lv' := [(1, .int 5), (0, .ref a0)]) hx hb dX2_init_68 hl (k := 0) rfl (by decide) (by decide) rfl (fun ls hl => ?_)
  refine lv_goto (tgt := 49) hx hb dX2_init_71 (by decide) ?_
  refine lv_iload_n hx hb dX2_init_49 rfl (lv_at hl 0 rfl) ?_
  refine lv_bipush (v := 8) hx hb dX2_init_50 (by decide) ?_
  refine lv_icmp_ge (tgt := 74) hx hb dX2_init_52 (by decide) (fun h => absurd (show (8 : Int32) ≤ 5 from h) (by decide)) (fun _ => ?_)
  refine lv_aload_n hx hb dX2_init_55 rfl (lv_at hl 1 rfl) ?_
  refine zgetA ha_83 hC hZ fX2_22 (by omega) h_95 rfl dX2_init_56 ?_
  refine lv_iload_n hx hb dX2_init_59 rfl (lv_at hl 0 rfl) ?_
  refine znew hC hZ hA nX2_9 (Nat.le_of_ble_eq_true rfl) (Nat.le_of_ble_eq_true rfl) dX2_init_60 (fun ad26 F26 had26 hF26 H hZ => ?_)
  have hZ : zH D (zA (k + 1) ad sz) s.heap (k + 10) ad26 F26 H locs := hZ
  refine W.widen (k := 9) (n := 41) (Nat.le_of_ble_eq_true rfl) (Nat.le_of_ble_eq_true rfl) ?_
  have h_97 := zne hF26 (by omega) h_95
  have h_98 := zne hF26 (by omega) h_96
  have ha_99 := (had26 k (by omega)).trans ha_83
  have ha_100 := (had26 (k + 1) (by omega)).trans ha_84
  have ha_101 := (had26 (k + 2) (by omega)).trans ha_85
  have ha_102 := (had26 (k + 3) (by omega)).trans ha_86
  have ha_103 := (had26 (k + 4) (by omega)).trans ha_87
  have ha_104 := (had26 (k + 5) (by omega)).trans ha_88
  have ha_105 := (had26 (k + 6) (by omega)).trans ha_89
  have ha_106 := (had26 (k + 7) (by omega)).trans ha_90
  have ha_107 := (had26 (k + 8) (by omega)).trans hb7
  obtain ⟨b8, hb8⟩ : ∃ a, ad26 (k + 9) = a := ⟨_, rfl⟩
  rw [hb8]
  have h_108 := zeq hF26
  refine lv_dup hx hb dX2_init_63 rfl ?_
  refine zgovC hZ hA (zrunI (rest := [.ref b8, .int 5, .ref b1]) (k := k + 9) hb8 hC hZ (c_X3_init l D cy (k + 10) ad26 F26 H.size (k + 9) (by omega) h_108) iX2_11 (zRjC_of rfl) hl.1 (Nat.le_of_ble_eq_true rfl) dX2_init_64 ⟨(Nat.le_of_ble_eq_true rfl), (Nat.le_of_ble_eq_true rfl)⟩) (fun F27 hF27 H locs hZ => ?_)
  have hZ : zH D (zA (k + 1) ad sz) s.heap (k + 10) ad26 F27 H locs := hZ
  have h_109 := zne hF27 (by omega) h_97
  have h_110 := zne hF27 (by omega) h_98
  have h_111 : F27 (k + 9) = oSetting (50, 20, 0, 100) := zeq hF27
  refine zastqC (x := 5) (t := 2) (C := RX3) (T := TX3) (N0 := 4) ha_101 hb8 hC hZ (by omega) (by omega) h_110 rfl h_111 rfl (by decide) (by decide) (by decide) dX2_init_67 (fun F28 hF28 H locs hZ => ?_)
  have h_112 := zne hF28 (by omega) h_109
  have h_113 : F28 (k + 2) = oRefs cy 2 8 (va_up (va_up (va_up (va_up (va_up (va_up (fun _ => none) 0 (some b3)) 1 (some b4)) 2 (some b5)) 3 (some b6)) 4 (some b7)) 5 (some b8)) := zeq hF28
  refine lv_iinc (v := 6) (lv' := [(1, .int 6), (0, .ref a0)]) hx hb dX2_init_68 hl (k := 0) rfl (by decide) (by decide) rfl (fun ls hl => ?_)
  refine lv_goto (tgt := 49) hx hb dX2_init_71 (by decide) ?_
  refine lv_iload_n hx hb dX2_init_49 rfl (lv_at hl 0 rfl) ?_
  refine lv_bipush (v := 8) hx hb dX2_init_50 (by decide) ?_
  refine lv_icmp_ge (tgt := 74) hx hb dX2_init_52 (by decide) (fun h => absurd (show (8 : Int32) ≤ 6 from h) (by decide)) (fun _ => ?_)
  refine lv_aload_n hx hb dX2_init_55 rfl (lv_at hl 1 rfl) ?_
  refine zgetA ha_99 hC hZ fX2_22 (by omega) h_112 rfl dX2_init_56 ?_
  refine lv_iload_n hx hb dX2_init_59 rfl (lv_at hl 0 rfl) ?_
  refine znew hC hZ hA nX2_9 (Nat.le_of_ble_eq_true rfl) (Nat.le_of_ble_eq_true rfl) dX2_init_60 (fun ad29 F29 had29 hF29 H hZ => ?_)
  have hZ : zH D (zA (k + 1) ad sz) s.heap (k + 11) ad29 F29 H locs := hZ
  refine W.widen (k := 10) (n := 45) (Nat.le_of_ble_eq_true rfl) (Nat.le_of_ble_eq_true rfl) ?_
  have h_114 := zne hF29 (by omega) h_112
  have h_115 := zne hF29 (by omega) h_113
  have ha_116 := (had29 k (by omega)).trans ha_99
  have ha_117 := (had29 (k + 1) (by omega)).trans ha_100
  have ha_118 := (had29 (k + 2) (by omega)).trans ha_101
  have ha_119 := (had29 (k + 3) (by omega)).trans ha_102
  have ha_120 := (had29 (k + 4) (by omega)).trans ha_103
  have ha_121 := (had29 (k + 5) (by omega)).trans ha_104
  have ha_122 := (had29 (k + 6) (by omega)).trans ha_105
  have ha_123 := (had29 (k + 7) (by omega)).trans ha_106
  have ha_124 := (had29 (k + 8) (by omega)).trans ha_107
  have ha_125 := (had29 (k + 9) (by omega)).trans hb8
  obtain ⟨b9, hb9⟩ : ∃ a, ad29 (k + 10) = a := ⟨_, rfl⟩
  rw [hb9]
  have h_126 := zeq hF29
  refine lv_dup hx hb dX2_init_63 rfl ?_
  refine zgovC hZ hA (zrunI (rest := [.ref b9, .int 6, .ref b1]) (k := k + 10) hb9 hC hZ (c_X3_init l D cy (k + 11) ad29 F29 H.size (k + 10) (by omega) h_126) iX2_11 (zRjC_of rfl) hl.1 (Nat.le_of_ble_eq_true rfl) dX2_init_64 ⟨(Nat.le_of_ble_eq_true rfl), (Nat.le_of_ble_eq_true rfl)⟩) (fun F30 hF30 H locs hZ => ?_)
  have hZ : zH D (zA (k + 1) ad sz) s.heap (k + 11) ad29 F30 H locs := hZ
  have h_127 := zne hF30 (by omega) h_114
  have h_128 := zne hF30 (by omega) h_115
  have h_129 : F30 (k + 10) = oSetting (50, 20, 0, 100) := zeq hF30
  refine zastqC (x := 6) (t := 2) (C := RX3) (T := TX3) (N0 := 4) ha_118 hb9 hC hZ (by omega) (by omega) h_128 rfl h_129 rfl (by decide) (by decide) (by decide) dX2_init_67 (fun F31 hF31 H locs hZ => ?_)
  have h_130 := zne hF31 (by omega) h_127
  have h_131 : F31 (k + 2) = oRefs cy 2 8 (va_up (va_up (va_up (va_up (va_up (va_up (va_up (fun _ => none) 0 (some b3)) 1 (some b4)) 2 (some b5)) 3 (some b6)) 4 (some b7)) 5 (some b8)) 6 (some b9)) := zeq hF31
  refine lv_iinc (v := 7) (lv' := [(1, .int 7), (0, .ref a0)]) hx hb dX2_init_68 hl (k := 0) rfl (by decide) (by decide) rfl (fun ls hl => ?_)
  refine lv_goto (tgt := 49) hx hb dX2_init_71 (by decide) ?_
  refine lv_iload_n hx hb dX2_init_49 rfl (lv_at hl 0 rfl) ?_
  refine lv_bipush (v := 8) hx hb dX2_init_50 (by decide) ?_
  refine lv_icmp_ge (tgt := 74) hx hb dX2_init_52 (by decide) (fun h => absurd (show (8 : Int32) ≤ 7 from h) (by decide)) (fun _ => ?_)
  refine lv_aload_n hx hb dX2_init_55 rfl (lv_at hl 1 rfl) ?_
  refine zgetA ha_116 hC hZ fX2_22 (by omega) h_130 rfl dX2_init_56 ?_
  refine lv_iload_n hx hb dX2_init_59 rfl (lv_at hl 0 rfl) ?_
  refine znew hC hZ hA nX2_9 (Nat.le_of_ble_eq_true rfl) (Nat.le_of_ble_eq_true rfl) dX2_init_60 (fun ad32 F32 had32 hF32 H hZ => ?_)
  have hZ : zH D (zA (k + 1) ad sz) s.heap (k + 12) ad32 F32 H locs := hZ
  refine W.widen (k := 11) (n := 49) (Nat.le_of_ble_eq_true rfl) (Nat.le_of_ble_eq_true rfl) ?_
  have h_132 := zne hF32 (by omega) h_130
  have h_133 := zne hF32 (by omega) h_131
  have ha_134 := (had32 k (by omega)).trans ha_116
  have ha_135 := (had32 (k + 1) (by omega)).trans ha_117
  have ha_136 := (had32 (k + 2) (by omega)).trans ha_118
  have ha_137 := (had32 (k + 3) (by omega)).trans ha_119
  have ha_138 := (had32 (k + 4) (by omega)).trans ha_120
  have ha_139 := (had32 (k + 5) (by omega)).trans ha_121
  have ha_140 := (had32 (k + 6) (by omega)).trans ha_122
  have ha_141 := (had32 (k + 7) (by omega)).trans ha_123
  have ha_142 := (had32 (k + 8) (by omega)).trans ha_124
  have ha_143 := (had32 (k + 9) (by omega)).trans ha_125
  have ha_144 := (had32 (k + 10) (by omega)).trans hb9
  obtain ⟨b10, hb10⟩ : ∃ a, ad32 (k + 11) = a := ⟨_, rfl⟩
  rw [hb10]
  have h_145 := zeq hF32
  refine lv_dup hx hb dX2_init_63 rfl ?_
  refine zgovC hZ hA (zrunI (rest := [.ref b10, .int 7, .ref b1]) (k := k + 11) hb10 hC hZ (c_X3_init l D cy (k + 12) ad32 F32 H.size (k + 11) (by omega) h_145) iX2_11 (zRjC_of rfl) hl.1 (Nat.le_of_ble_eq_true rfl) dX2_init_64 ⟨(Nat.le_of_ble_eq_true rfl), (Nat.le_of_ble_eq_true rfl)⟩) (fun F33 hF33 H locs hZ => ?_)
  have hZ : zH D (zA (k + 1) ad sz) s.heap (k + 12) ad32 F33 H locs := hZ
  have h_146 := zne hF33 (by omega) h_132
  have h_147 := zne hF33 (by omega) h_133
  have h_148 : F33 (k + 11) = oSetting (50, 20, 0, 100) := zeq hF33
  refine zastqC (x := 7) (t := 2) (C := RX3) (T := TX3) (N0 := 4) ha_136 hb10 hC hZ (by omega) (by omega) h_147 rfl h_148 rfl (by decide) (by decide) (by decide) dX2_init_67 (fun F34 hF34 H locs hZ => ?_)
  have h_149 := zne hF34 (by omega) h_146
  have h_150 : F34 (k + 2) = oRefs cy 2 8 (va_up (va_up (va_up (va_up (va_up (va_up (va_up (va_up (fun _ => none) 0 (some b3)) 1 (some b4)) 2 (some b5)) 3 (some b6)) 4 (some b7)) 5 (some b8)) 6 (some b9)) 7 (some b10)) := zeq hF34
  refine lv_iinc (v := 8) (lv' := [(1, .int 8), (0, .ref a0)]) hx hb dX2_init_68 hl (k := 0) rfl (by decide) (by decide) rfl (fun ls hl => ?_)
  refine lv_goto (tgt := 49) hx hb dX2_init_71 (by decide) ?_
  refine lv_iload_n hx hb dX2_init_49 rfl (lv_at hl 0 rfl) ?_
  refine lv_bipush (v := 8) hx hb dX2_init_50 (by decide) ?_
  refine lv_icmp_ge (tgt := 74) hx hb dX2_init_52 (by decide) (fun _ => ?_) (fun h => absurd (show (8 : Int32) ≤ 8 by decide) h)
  have hf9 : ∀ i, i < 8 → (fun i => some (ad32 (k + 4 + i))) i = (va_up (va_up (va_up (va_up (va_up (va_up (va_up (va_up (fun _ => none) 0 (some b3)) 1 (some b4)) 2 (some b5)) 3 (some b6)) 4 (some b7)) 5 (some b8)) 6 (some b9)) 7 (some b10)) i := by
    intro i hi
    rcases (show i = 0 ∨ i = 1 ∨ i = 2 ∨ i = 3 ∨ i = 4 ∨ i = 5 ∨ i = 6 ∨ i = 7 by omega) with rfl | rfl | rfl | rfl | rfl | rfl | rfl | rfl
    · show some (ad32 (k + 4 + 0)) = _; rw [show ad32 (k + 4 + 0) = b3 from ha_138]; simp [va_up]
    · show some (ad32 (k + 4 + 1)) = _; rw [show ad32 (k + 4 + 1) = b4 from ha_139]; simp [va_up]
    · show some (ad32 (k + 4 + 2)) = _; rw [show ad32 (k + 4 + 2) = b5 from ha_140]; simp [va_up]
    · show some (ad32 (k + 4 + 3)) = _; rw [show ad32 (k + 4 + 3) = b6 from ha_141]; simp [va_up]
    · show some (ad32 (k + 4 + 4)) = _; rw [show ad32 (k + 4 + 4) = b7 from ha_142]; simp [va_up]
    · show some (ad32 (k + 4 + 5)) = _; rw [show ad32 (k + 4 + 5) = b8 from ha_143]; simp [va_up]
    · show some (ad32 (k + 4 + 6)) = _; rw [show ad32 (k + 4 + 6) = b9 from ha_144]; simp [va_up]
    · show some (ad32 (k + 4 + 7)) = _; rw [show ad32 (k + 4 + 7) = b10 from hb10]; simp [va_up]
  have hZ := zrefs hZ (k := k + 2) (by omega) h_150 hf9
  obtain ⟨F35, hF35⟩ : ∃ z, z = va_up F34 (k + 2) (oRefs cy 2 8 (fun i => some (ad32 (k + 4 + i)))) := ⟨_, rfl⟩
  rw [← hF35] at hZ
  have h_151 := zne hF35 (by omega) h_149
  have harr := zeq hF35
  have sn_35 : ∀ j, j < k + 12 → ¬ j = k → ¬ j = k + 2 → F35 j = F35 j ∧ ad32 j = ad32 j := fun j h g0 g1 => ⟨rfl, rfl⟩
  have sn_34 : ∀ j, j < k + 12 → ¬ j = k → ¬ j = k + 2 → F35 j = F34 j ∧ ad32 j = ad32 j := fun j h g0 g1 => ⟨(sn_35 j (by omega) g0 g1).1.trans (znu hF35 (by omega)), (sn_35 j (by omega) g0 g1).2.trans rfl⟩
  have sn_33 : ∀ j, j < k + 12 → ¬ j = k → ¬ j = k + 2 → F35 j = F33 j ∧ ad32 j = ad32 j := fun j h g0 g1 => ⟨(sn_34 j (by omega) g0 g1).1.trans (znu hF34 (by omega)), (sn_34 j (by omega) g0 g1).2.trans rfl⟩
  have sn_32 : ∀ j, j < k + 11 → ¬ j = k → ¬ j = k + 2 → F35 j = F32 j ∧ ad32 j = ad32 j := fun j h g0 g1 => ⟨(sn_33 j (by omega) g0 g1).1.trans (znu hF33 (by omega)), (sn_33 j (by omega) g0 g1).2.trans rfl⟩
  have sn_31 : ∀ j, j < k + 11 → ¬ j = k → ¬ j = k + 2 → F35 j = F31 j ∧ ad32 j = ad29 j := fun j h g0 g1 => ⟨(sn_32 j (by omega) g0 g1).1.trans (znu hF32 (by omega)), (sn_32 j (by omega) g0 g1).2.trans (had32 j (by omega))⟩
  have sn_30 : ∀ j, j < k + 11 → ¬ j = k → ¬ j = k + 2 → F35 j = F30 j ∧ ad32 j = ad29 j := fun j h g0 g1 => ⟨(sn_31 j (by omega) g0 g1).1.trans (znu hF31 (by omega)), (sn_31 j (by omega) g0 g1).2.trans rfl⟩
  have sn_29 : ∀ j, j < k + 10 → ¬ j = k → ¬ j = k + 2 → F35 j = F29 j ∧ ad32 j = ad29 j := fun j h g0 g1 => ⟨(sn_30 j (by omega) g0 g1).1.trans (znu hF30 (by omega)), (sn_30 j (by omega) g0 g1).2.trans rfl⟩
  have sn_28 : ∀ j, j < k + 10 → ¬ j = k → ¬ j = k + 2 → F35 j = F28 j ∧ ad32 j = ad26 j := fun j h g0 g1 => ⟨(sn_29 j (by omega) g0 g1).1.trans (znu hF29 (by omega)), (sn_29 j (by omega) g0 g1).2.trans (had29 j (by omega))⟩
  have sn_27 : ∀ j, j < k + 10 → ¬ j = k → ¬ j = k + 2 → F35 j = F27 j ∧ ad32 j = ad26 j := fun j h g0 g1 => ⟨(sn_28 j (by omega) g0 g1).1.trans (znu hF28 (by omega)), (sn_28 j (by omega) g0 g1).2.trans rfl⟩
  have sn_26 : ∀ j, j < k + 9 → ¬ j = k → ¬ j = k + 2 → F35 j = F26 j ∧ ad32 j = ad26 j := fun j h g0 g1 => ⟨(sn_27 j (by omega) g0 g1).1.trans (znu hF27 (by omega)), (sn_27 j (by omega) g0 g1).2.trans rfl⟩
  have sn_25 : ∀ j, j < k + 9 → ¬ j = k → ¬ j = k + 2 → F35 j = F25 j ∧ ad32 j = ad23 j := fun j h g0 g1 => ⟨(sn_26 j (by omega) g0 g1).1.trans (znu hF26 (by omega)), (sn_26 j (by omega) g0 g1).2.trans (had26 j (by omega))⟩
  have sn_24 : ∀ j, j < k + 9 → ¬ j = k → ¬ j = k + 2 → F35 j = F24 j ∧ ad32 j = ad23 j := fun j h g0 g1 => ⟨(sn_25 j (by omega) g0 g1).1.trans (znu hF25 (by omega)), (sn_25 j (by omega) g0 g1).2.trans rfl⟩
  have sn_23 : ∀ j, j < k + 8 → ¬ j = k → ¬ j = k + 2 → F35 j = F23 j ∧ ad32 j = ad23 j := fun j h g0 g1 => ⟨(sn_24 j (by omega) g0 g1).1.trans (znu hF24 (by omega)), (sn_24 j (by omega) g0 g1).2.trans rfl⟩
  have sn_22 : ∀ j, j < k + 8 → ¬ j = k → ¬ j = k + 2 → F35 j = F22 j ∧ ad32 j = ad20 j := fun j h g0 g1 => ⟨(sn_23 j (by omega) g0 g1).1.trans (znu hF23 (by omega)), (sn_23 j (by omega) g0 g1).2.trans (had23 j (by omega))⟩
  have sn_21 : ∀ j, j < k + 8 → ¬ j = k → ¬ j = k + 2 → F35 j = F21 j ∧ ad32 j = ad20 j := fun j h g0 g1 => ⟨(sn_22 j (by omega) g0 g1).1.trans (znu hF22 (by omega)), (sn_22 j (by omega) g0 g1).2.trans rfl⟩
  have sn_20 : ∀ j, j < k + 7 → ¬ j = k → ¬ j = k + 2 → F35 j = F20 j ∧ ad32 j = ad20 j := fun j h g0 g1 => ⟨(sn_21 j (by omega) g0 g1).1.trans (znu hF21 (by omega)), (sn_21 j (by omega) g0 g1).2.trans rfl⟩
  have sn_19 : ∀ j, j < k + 7 → ¬ j = k → ¬ j = k + 2 → F35 j = F19 j ∧ ad32 j = ad17 j := fun j h g0 g1 => ⟨(sn_20 j (by omega) g0 g1).1.trans (znu hF20 (by omega)), (sn_20 j (by omega) g0 g1).2.trans (had20 j (by omega))⟩
  have sn_18 : ∀ j, j < k + 7 → ¬ j = k → ¬ j = k + 2 → F35 j = F18 j ∧ ad32 j = ad17 j := fun j h g0 g1 => ⟨(sn_19 j (by omega) g0 g1).1.trans (znu hF19 (by omega)), (sn_19 j (by omega) g0 g1).2.trans rfl⟩
  have sn_17 : ∀ j, j < k + 6 → ¬ j = k → ¬ j = k + 2 → F35 j = F17 j ∧ ad32 j = ad17 j := fun j h g0 g1 => ⟨(sn_18 j (by omega) g0 g1).1.trans (znu hF18 (by omega)), (sn_18 j (by omega) g0 g1).2.trans rfl⟩
  have sn_16 : ∀ j, j < k + 6 → ¬ j = k → ¬ j = k + 2 → F35 j = F16 j ∧ ad32 j = ad14 j := fun j h g0 g1 => ⟨(sn_17 j (by omega) g0 g1).1.trans (znu hF17 (by omega)), (sn_17 j (by omega) g0 g1).2.trans (had17 j (by omega))⟩
  have sn_15 : ∀ j, j < k + 6 → ¬ j = k → ¬ j = k + 2 → F35 j = F15 j ∧ ad32 j = ad14 j := fun j h g0 g1 => ⟨(sn_16 j (by omega) g0 g1).1.trans (znu hF16 (by omega)), (sn_16 j (by omega) g0 g1).2.trans rfl⟩
  have sn_14 : ∀ j, j < k + 5 → ¬ j = k → ¬ j = k + 2 → F35 j = F14 j ∧ ad32 j = ad14 j := fun j h g0 g1 => ⟨(sn_15 j (by omega) g0 g1).1.trans (znu hF15 (by omega)), (sn_15 j (by omega) g0 g1).2.trans rfl⟩
  have sn_13 : ∀ j, j < k + 5 → ¬ j = k → ¬ j = k + 2 → F35 j = F13 j ∧ ad32 j = ad11 j := fun j h g0 g1 => ⟨(sn_14 j (by omega) g0 g1).1.trans (znu hF14 (by omega)), (sn_14 j (by omega) g0 g1).2.trans (had14 j (by omega))⟩
  have sn_12 : ∀ j, j < k + 5 → ¬ j = k → ¬ j = k + 2 → F35 j = F12 j ∧ ad32 j = ad11 j := fun j h g0 g1 => ⟨(sn_13 j (by omega) g0 g1).1.trans (znu hF13 (by omega)), (sn_13 j (by omega) g0 g1).2.trans rfl⟩
  have sn_11 : ∀ j, j < k + 4 → ¬ j = k → ¬ j = k + 2 → F35 j = F11 j ∧ ad32 j = ad11 j := fun j h g0 g1 => ⟨(sn_12 j (by omega) g0 g1).1.trans (znu hF12 (by omega)), (sn_12 j (by omega) g0 g1).2.trans rfl⟩
  have sn_10 : ∀ j, j < k + 4 → ¬ j = k → ¬ j = k + 2 → F35 j = F10 j ∧ ad32 j = ad8 j := fun j h g0 g1 => ⟨(sn_11 j (by omega) g0 g1).1.trans (znu hF11 (by omega)), (sn_11 j (by omega) g0 g1).2.trans (had11 j (by omega))⟩
  have sn_9 : ∀ j, j < k + 4 → ¬ j = k → ¬ j = k + 2 → F35 j = F9 j ∧ ad32 j = ad8 j := fun j h g0 g1 => ⟨(sn_10 j (by omega) g0 g1).1.trans (znu hF10 (by omega)), (sn_10 j (by omega) g0 g1).2.trans rfl⟩
  have sn_8 : ∀ j, j < k + 3 → ¬ j = k → ¬ j = k + 2 → F35 j = F8 j ∧ ad32 j = ad8 j := fun j h g0 g1 => ⟨(sn_9 j (by omega) g0 g1).1.trans (znu hF9 (by omega)), (sn_9 j (by omega) g0 g1).2.trans rfl⟩
  have sn_7 : ∀ j, j < k + 3 → ¬ j = k → ¬ j = k + 2 → F35 j = F7 j ∧ ad32 j = ad5 j := fun j h g0 g1 => ⟨(sn_8 j (by omega) g0 g1).1.trans (znu hF8 (by omega)), (sn_8 j (by omega) g0 g1).2.trans (had8 j (by omega))⟩
  have sn_6 : ∀ j, j < k + 3 → ¬ j = k → ¬ j = k + 2 → F35 j = F6 j ∧ ad32 j = ad5 j := fun j h g0 g1 => ⟨(sn_7 j (by omega) g0 g1).1.trans (znu hF7 (by omega)), (sn_7 j (by omega) g0 g1).2.trans rfl⟩
  have sn_5 : ∀ j, j < k + 3 → ¬ j = k → ¬ j = k + 2 → F35 j = F5 j ∧ ad32 j = ad5 j := fun j h g0 g1 => ⟨(sn_6 j (by omega) g0 g1).1.trans (znu hF6 (by omega)), (sn_6 j (by omega) g0 g1).2.trans rfl⟩
  have sn_4 : ∀ j, j < k + 2 → ¬ j = k → ¬ j = k + 2 → F35 j = F4 j ∧ ad32 j = ad1 j := fun j h g0 g1 => ⟨(sn_5 j (by omega) g0 g1).1.trans (znu hF5 (by omega)), (sn_5 j (by omega) g0 g1).2.trans (had5 j (by omega))⟩
  have sn_3 : ∀ j, j < k + 2 → ¬ j = k → ¬ j = k + 2 → F35 j = F3 j ∧ ad32 j = ad1 j := fun j h g0 g1 => ⟨(sn_4 j (by omega) g0 g1).1.trans (znu hF4 (by omega)), (sn_4 j (by omega) g0 g1).2.trans rfl⟩
  have sn_2 : ∀ j, j < k + 2 → ¬ j = k → ¬ j = k + 2 → F35 j = F2 j ∧ ad32 j = ad1 j := fun j h g0 g1 => ⟨(sn_3 j (by omega) g0 g1).1.trans (znu hF3 (by omega)), (sn_3 j (by omega) g0 g1).2.trans rfl⟩
  have sn_1 : ∀ j, j < k → ¬ j = k → ¬ j = k + 2 → F35 j = F1 j ∧ ad32 j = ad1 j := fun j h g0 g1 => ⟨(sn_2 j (by omega) g0 g1).1.trans (znu hF2 (by omega)), (sn_2 j (by omega) g0 g1).2.trans rfl⟩
  have sn_0 : ∀ j, j < k → ¬ j = k → ¬ j = k + 2 → F35 j = F j ∧ ad32 j = ad j := fun j h g0 g1 => ⟨(sn_1 j (by omega) g0 g1).1.trans (znu hF1 (by omega)), (sn_1 j (by omega) g0 g1).2.trans (had1 j (by omega))⟩
  have hq1 : ∀ j, j < k + 1 → ad32 j = ad j := fun j hj => by
    by_cases e : j = k
    · rw [e]; exact ha_134.trans ha0.symm
    · exact (sn_0 j (by omega) e (by omega)).2
  have hq2 : ∀ j, j < k → F35 j = F j := fun j hj => (sn_0 j (by omega) (by omega) (by omega)).1
  have hq3 : RS ad32 cy k F35 sc0 := by
    refine ⟨?_, ((sn_2 (k + 1) (by omega) (by omega) (by omega)).1.trans h_5), harr, ((sn_9 (k + 3) (by omega) (by omega) (by omega)).1.trans h_24), fun i hi => ?_⟩
    · rw [h_151]; unfold oScene; rw [show ad32 (k + 1) = b0 from ha_135, show ad32 (k + 2) = b1 from ha_136, show ad32 (k + 3) = b2 from ha_137]; rfl
    · rcases (show i = 0 ∨ i = 1 ∨ i = 2 ∨ i = 3 ∨ i = 4 ∨ i = 5 ∨ i = 6 ∨ i = 7 by omega) with rfl | rfl | rfl | rfl | rfl | rfl | rfl | rfl
      · exact ((sn_12 (k + 4) (by omega) (by omega) (by omega)).1.trans h_36)
      · exact ((sn_15 (k + 5) (by omega) (by omega) (by omega)).1.trans h_49)
      · exact ((sn_18 (k + 6) (by omega) (by omega) (by omega)).1.trans h_63)
      · exact ((sn_21 (k + 7) (by omega) (by omega) (by omega)).1.trans h_78)
      · exact ((sn_24 (k + 8) (by omega) (by omega) (by omega)).1.trans h_94)
      · exact ((sn_27 (k + 9) (by omega) (by omega) (by omega)).1.trans h_111)
      · exact ((sn_30 (k + 10) (by omega) (by omega) (by omega)).1.trans h_129)
      · exact ((sn_33 (k + 11) (by omega) (by omega) (by omega)).1.trans h_148)
  exact zvretN hC hZ hr hlocks (φ := (fun u : (Nat → Nat) × (Nat → va_E) => (∀ j, j < k + 1 → u.1 j = ad j) ∧ (∀ j, j < k → u.2 j = F j) ∧ RS u.1 cy k u.2 sc0)) ⟨hq1, hq2, hq3⟩ dX2_init_74

theorem mX6_init : zMd yX6_init cX6_init 2 none 0 := ⟨by decide +kernel, gt_of 65 (by decide +kernel) rfl, gt_of 45 (by decide +kernel) rfl, by decide⟩
theorem dX6_init_0 : decode cX6_init 0 = .ok (.aload_n 0, 1) := by decide +kernel
theorem dX6_init_1 : decode cX6_init 1 = .ok (.invokespecial 1, 3) := by decide +kernel
theorem oX6_1 : zObj RX6 1 := ⟨gt_of 66 (by decide +kernel) rfl, gt_of 67 (by decide +kernel) rfl, gt_of 68 (by decide +kernel) rfl⟩
theorem dX6_init_4 : decode cX6_init 4 = .ok (.aload_n 0, 1) := by decide +kernel
theorem nX6_7 : zNew RX6 7 2 5 [.null, .int 0, .null, .int 0, .null] := ⟨RX2, TX2, tyX2, rfl, inX2, tyX2_ok, gt_of 69 (by decide +kernel) rfl, gt_of 70 (by decide +kernel) rfl, gt_of 46 (by decide +kernel) rfl, fun j hj => match j, hj with | 0, _ => rfl | 1, _ => rfl | 2, _ => rfl | 3, _ => rfl | 4, _ => rfl | j + 5, h => absurd h (by omega)⟩
theorem dX6_init_5 : decode cX6_init 5 = .ok (.new 7, 3) := by decide +kernel
theorem dX6_init_8 : decode cX6_init 8 = .ok (.dup, 1) := by decide +kernel
theorem dX6_init_9 : decode cX6_init 9 = .ok (.invokespecial 9, 3) := by decide +kernel
theorem kX6_9 : zLk RX6 9 yX2_init := Or.inl (gt_of 71 (by decide +kernel) rfl)
theorem iX6_9 : zInit RX6 9 yX2_init cX2_init 2 := ⟨mX2_init, rfl, gt_of 72 (by decide +kernel) rfl, kX6_9⟩
theorem pX6_10 : zFldP RX6 10 6 0 true (.object "ChainLeap$Scene") := ⟨RX6, TX6, 9, tyX6, rfl, inX6, by decide, rfl, Or.inl (gt_of 228 (by decide +kernel) rfl), tyX6_ok, nmX6, rfl, by decide +kernel, fun _ => rfl⟩
theorem dX6_init_12 : decode cX6_init 12 = .ok (.putfield 10, 3) := by decide +kernel
theorem dX6_init_15 : decode cX6_init 15 = .ok (.aload_n 0, 1) := by decide +kernel
theorem dX6_init_16 : decode cX6_init 16 = .ok (.new 7, 3) := by decide +kernel
theorem dX6_init_19 : decode cX6_init 19 = .ok (.dup, 1) := by decide +kernel
theorem dX6_init_20 : decode cX6_init 20 = .ok (.invokespecial 9, 3) := by decide +kernel
theorem pX6_16 : zFldP RX6 16 6 1 true (.object "ChainLeap$Scene") := ⟨RX6, TX6, 9, tyX6, rfl, inX6, by decide, rfl, Or.inl (gt_of 229 (by decide +kernel) rfl), tyX6_ok, nmX6, rfl, by decide +kernel, fun _ => rfl⟩
theorem dX6_init_23 : decode cX6_init 23 = .ok (.putfield 16, 3) := by decide +kernel
theorem dX6_init_26 : decode cX6_init 26 = .ok (.aload_n 0, 1) := by decide +kernel
theorem dX6_init_27 : decode cX6_init 27 = .ok (.iconst 0, 1) := by decide +kernel
theorem dX6_init_28 : decode cX6_init 28 = .ok (.putfield 19, 3) := by decide +kernel
theorem dX6_init_31 : decode cX6_init 31 = .ok (.aload_n 0, 1) := by decide +kernel
theorem dX6_init_32 : decode cX6_init 32 = .ok (.bipush 8, 2) := by decide +kernel
theorem dX6_init_34 : decode cX6_init 34 = .ok (.anewarray 23, 3) := by decide +kernel
theorem pX6_25 : zFldP RX6 25 6 3 true (.array (.object "ChainLeap$Shelf")) := ⟨RX6, TX6, 9, tyX6, rfl, inX6, by decide, rfl, Or.inl (gt_of 231 (by decide +kernel) rfl), tyX6_ok, nmX6, rfl, by decide +kernel, fun _ => rfl⟩
theorem dX6_init_37 : decode cX6_init 37 = .ok (.putfield 25, 3) := by decide +kernel
theorem dX6_init_40 : decode cX6_init 40 = .ok (.iconst 0, 1) := by decide +kernel
theorem dX6_init_41 : decode cX6_init 41 = .ok (.istore_n 1, 1) := by decide +kernel
theorem dX6_init_42 : decode cX6_init 42 = .ok (.iload_n 1, 1) := by decide +kernel
theorem dX6_init_43 : decode cX6_init 43 = .ok (.bipush 8, 2) := by decide +kernel
theorem dX6_init_45 : decode cX6_init 45 = .ok (.if_icmp .ge 22, 3) := by decide +kernel
theorem dX6_init_48 : decode cX6_init 48 = .ok (.aload_n 0, 1) := by decide +kernel
theorem dX6_init_49 : decode cX6_init 49 = .ok (.getfield 25, 3) := by decide +kernel
theorem dX6_init_52 : decode cX6_init 52 = .ok (.iload_n 1, 1) := by decide +kernel
theorem nX6_23 : zNew RX6 23 4 5 [.int 0, .null, .int 0, .int 0, .null] := ⟨RX4, TX4, tyX4, rfl, inX4, tyX4_ok, gt_of 157 (by decide +kernel) rfl, gt_of 159 (by decide +kernel) rfl, gt_of 49 (by decide +kernel) rfl, fun j hj => match j, hj with | 0, _ => rfl | 1, _ => rfl | 2, _ => rfl | 3, _ => rfl | 4, _ => rfl | j + 5, h => absurd h (by omega)⟩
theorem dX6_init_53 : decode cX6_init 53 = .ok (.new 23, 3) := by decide +kernel
theorem dX6_init_56 : decode cX6_init 56 = .ok (.dup, 1) := by decide +kernel
theorem dX6_init_57 : decode cX6_init 57 = .ok (.invokespecial 29, 3) := by decide +kernel
theorem kX6_29 : zLk RX6 29 yX4_init := Or.inr ⟨"ChainLeap", List.mem_of_getElem? (i := 160) (by decide +kernel)⟩
theorem iX6_29 : zInit RX6 29 yX4_init cX4_init 1 := ⟨mX4_init, rfl, gt_of 161 (by decide +kernel) rfl, kX6_29⟩
theorem dX6_init_60 : decode cX6_init 60 = .ok (.aastore, 1) := by decide +kernel
theorem dX6_init_61 : decode cX6_init 61 = .ok (.iinc 1 1, 3) := by decide +kernel
theorem dX6_init_64 : decode cX6_init 64 = .ok (.goto (-22), 3) := by decide +kernel
theorem dX6_init_67 : decode cX6_init 67 = .ok (.aload_n 0, 1) := by decide +kernel
theorem nX6_30 : zNew RX6 30 1 4 [.null, .int 0, .int 0, .int 0] := ⟨RX1, TX1, tyX1, rfl, inX1, tyX1_ok, gt_of 201 (by decide +kernel) rfl, gt_of 202 (by decide +kernel) rfl, gt_of 51 (by decide +kernel) rfl, fun j hj => match j, hj with | 0, _ => rfl | 1, _ => rfl | 2, _ => rfl | 3, _ => rfl | j + 4, h => absurd h (by omega)⟩
theorem dX6_init_68 : decode cX6_init 68 = .ok (.new 30, 3) := by decide +kernel
theorem dX6_init_71 : decode cX6_init 71 = .ok (.dup, 1) := by decide +kernel
theorem dX6_init_72 : decode cX6_init 72 = .ok (.invokespecial 32, 3) := by decide +kernel
theorem kX6_32 : zLk RX6 32 yX1_init := Or.inr ⟨"ChainLeap", List.mem_of_getElem? (i := 203) (by decide +kernel)⟩
theorem iX6_32 : zInit RX6 32 yX1_init cX1_init 1 := ⟨mX1_init, rfl, gt_of 204 (by decide +kernel) rfl, kX6_32⟩
theorem pX6_33 : zFldP RX6 33 6 4 true (.object "ChainLeap$Reader") := ⟨RX6, TX6, 9, tyX6, rfl, inX6, by decide, rfl, Or.inl (gt_of 232 (by decide +kernel) rfl), tyX6_ok, nmX6, rfl, by decide +kernel, fun _ => rfl⟩
theorem dX6_init_75 : decode cX6_init 75 = .ok (.putfield 33, 3) := by decide +kernel
theorem dX6_init_78 : decode cX6_init 78 = .ok (.aload_n 0, 1) := by decide +kernel
theorem nX6_37 : zNew RX6 37 3 4 [.int 0, .int 0, .int 0, .int 0] := ⟨RX3, TX3, tyX3, rfl, inX3, tyX3_ok, gt_of 222 (by decide +kernel) rfl, gt_of 76 (by decide +kernel) rfl, gt_of 47 (by decide +kernel) rfl, fun j hj => match j, hj with | 0, _ => rfl | 1, _ => rfl | 2, _ => rfl | 3, _ => rfl | j + 4, h => absurd h (by omega)⟩
theorem dX6_init_79 : decode cX6_init 79 = .ok (.new 37, 3) := by decide +kernel
theorem dX6_init_82 : decode cX6_init 82 = .ok (.dup, 1) := by decide +kernel
theorem dX6_init_83 : decode cX6_init 83 = .ok (.invokespecial 39, 3) := by decide +kernel
theorem kX6_39 : zLk RX6 39 yX3_init := Or.inr ⟨"ChainLeap", List.mem_of_getElem? (i := 223) (by decide +kernel)⟩
theorem iX6_39 : zInit RX6 39 yX3_init cX3_init 1 := ⟨mX3_init, rfl, gt_of 78 (by decide +kernel) rfl, kX6_39⟩
theorem pX6_40 : zFldP RX6 40 6 5 true (.object "ChainLeap$Setting") := ⟨RX6, TX6, 9, tyX6, rfl, inX6, by decide, rfl, Or.inl (gt_of 233 (by decide +kernel) rfl), tyX6_ok, nmX6, rfl, by decide +kernel, fun _ => rfl⟩
theorem dX6_init_86 : decode cX6_init 86 = .ok (.putfield 40, 3) := by decide +kernel
theorem dX6_init_89 : decode cX6_init 89 = .ok (.aload_n 0, 1) := by decide +kernel
theorem nX6_44 : zNew RX6 44 5 2 [.int 0, .int 0] := ⟨RX5, TX5, tyX5, rfl, inX5, tyX5_ok, gt_of 224 (by decide +kernel) rfl, gt_of 165 (by decide +kernel) rfl, gt_of 50 (by decide +kernel) rfl, fun j hj => match j, hj with | 0, _ => rfl | 1, _ => rfl | j + 2, h => absurd h (by omega)⟩
theorem dX6_init_90 : decode cX6_init 90 = .ok (.new 44, 3) := by decide +kernel
theorem dX6_init_93 : decode cX6_init 93 = .ok (.dup, 1) := by decide +kernel
theorem dX6_init_94 : decode cX6_init 94 = .ok (.invokespecial 46, 3) := by decide +kernel
theorem kX6_46 : zLk RX6 46 yX5_init := Or.inr ⟨"ChainLeap", List.mem_of_getElem? (i := 225) (by decide +kernel)⟩
theorem iX6_46 : zInit RX6 46 yX5_init cX5_init 1 := ⟨mX5_init, rfl, gt_of 167 (by decide +kernel) rfl, kX6_46⟩
theorem pX6_47 : zFldP RX6 47 6 6 true (.object "ChainLeap$Tale") := ⟨RX6, TX6, 9, tyX6, rfl, inX6, by decide, rfl, Or.inl (gt_of 234 (by decide +kernel) rfl), tyX6_ok, nmX6, rfl, by decide +kernel, fun _ => rfl⟩
theorem dX6_init_97 : decode cX6_init 97 = .ok (.putfield 47, 3) := by decide +kernel
theorem dX6_init_100 : decode cX6_init 100 = .ok (.aload_n 0, 1) := by decide +kernel
theorem dX6_init_101 : decode cX6_init 101 = .ok (.new 44, 3) := by decide +kernel
theorem dX6_init_104 : decode cX6_init 104 = .ok (.dup, 1) := by decide +kernel
theorem dX6_init_105 : decode cX6_init 105 = .ok (.invokespecial 46, 3) := by decide +kernel
theorem pX6_51 : zFldP RX6 51 6 7 true (.object "ChainLeap$Tale") := ⟨RX6, TX6, 9, tyX6, rfl, inX6, by decide, rfl, Or.inl (gt_of 235 (by decide +kernel) rfl), tyX6_ok, nmX6, rfl, by decide +kernel, fun _ => rfl⟩
theorem dX6_init_108 : decode cX6_init 108 = .ok (.putfield 51, 3) := by decide +kernel
theorem dX6_init_111 : decode cX6_init 111 = .ok (.aload_n 0, 1) := by decide +kernel
theorem nX6_54 : zNew RX6 54 0 5 [.int 0, .int 0, .int 0, .int 0, .int 0] := ⟨RX0, TX0, tyX0, rfl, inX0, tyX0_ok, gt_of 226 (by decide +kernel) rfl, gt_of 109 (by decide +kernel) rfl, gt_of 48 (by decide +kernel) rfl, fun j hj => match j, hj with | 0, _ => rfl | 1, _ => rfl | 2, _ => rfl | 3, _ => rfl | 4, _ => rfl | j + 5, h => absurd h (by omega)⟩
theorem dX6_init_112 : decode cX6_init 112 = .ok (.new 54, 3) := by decide +kernel
theorem dX6_init_115 : decode cX6_init 115 = .ok (.dup, 1) := by decide +kernel
theorem dX6_init_116 : decode cX6_init 116 = .ok (.invokespecial 56, 3) := by decide +kernel
theorem kX6_56 : zLk RX6 56 yX0_init := Or.inr ⟨"ChainLeap", List.mem_of_getElem? (i := 227) (by decide +kernel)⟩
theorem iX6_56 : zInit RX6 56 yX0_init cX0_init 1 := ⟨mX0_init, rfl, gt_of 111 (by decide +kernel) rfl, kX6_56⟩
theorem pX6_57 : zFldP RX6 57 6 8 true (.object "ChainLeap$Course") := ⟨RX6, TX6, 9, tyX6, rfl, inX6, by decide, rfl, Or.inl (gt_of 236 (by decide +kernel) rfl), tyX6_ok, nmX6, rfl, by decide +kernel, fun _ => rfl⟩
theorem dX6_init_119 : decode cX6_init 119 = .ok (.putfield 57, 3) := by decide +kernel
theorem dX6_init_122 : decode cX6_init 122 = .ok (.return_, 1) := by decide +kernel
set_option maxRecDepth 100000 in
set_option maxHeartbeats 4000000 in
theorem c_X6_init (l : Launch) (D : va_G) (cy : Nat → Nat) (ad : Nat → Nat) (F : Nat → va_E) (sz : Nat) (hF0 : F 0 = .inr (6, [.null, .null, .int 0, .null, .null, .null, .null, .null, .null])) : Met l yX6_init (zw yX6_init cX6_init 2 none) (rmC 3 55 1089) (zPc D cy 1 ad F sz [.ref (ad 0)]) (va_Qv (fun u : (Nat → Nat) × (Nat → va_E) => (∀ j, j < 1 → u.1 j = ad j) ∧ (∀ j, j < 0 → u.2 j = F j) ∧ RX u.1 cy u.2 0 sc0 sc0 (fun _ => sf0) ((fun _ => 0), 0, 0, 0) bst0 (0, 0) sCC) (zBN D 56 (zA 1 ad sz)) (zA 1 ad sz)) 55 1089 (zA 1 ad sz) := by
  refine zmet (by decide +kernel) (Nat.le_of_ble_eq_true rfl) (fun p e s m args below meth c ls hC hsz hZ hA hr hlocks hnm hl => ?_)
  have hC : zC p m c cX6_init 2 s args RX6 D cy := hC
  have hx := hC.1.1
  have hb := hC.1.2.1
  have hl : lv_has ls 2 [(0, .ref (ad 0))] := hl
  have hin : meth.name = "<init>" := hnm
  obtain ⟨locs, hlo⟩ : ∃ z : List Loc, z = [] := ⟨_, rfl⟩
  rw [← hlo] at hZ ⊢
  obtain ⟨a0, ha0⟩ : ∃ a, ad 0 = a := ⟨_, rfl⟩
  rw [ha0] at hl
  refine lv_aload_n hx hb dX6_init_0 rfl (lv_at hl 0 rfl) ?_
  refine zobj hC oX6_1 hl.1 (Nat.le_of_ble_eq_true rfl) (Nat.le_of_ble_eq_true rfl) dX6_init_1 ?_
  refine lv_aload_n hx hb dX6_init_4 rfl (lv_at hl 0 rfl) ?_
  refine znew hC hZ hA nX6_7 (Nat.le_of_ble_eq_true rfl) (Nat.le_of_ble_eq_true rfl) dX6_init_5 (fun ad1 F1 had1 hF1 H hZ => ?_)
  have hZ : zH D (zA 1 ad sz) s.heap 2 ad1 F1 H locs := hZ
  refine W.widen (k := 1) (n := 5) (Nat.le_of_ble_eq_true rfl) (Nat.le_of_ble_eq_true rfl) ?_
  have h_1 := zne hF1 (by omega) hF0
  have ha_2 := (had1 0 (by omega)).trans ha0
  obtain ⟨b0, hb0⟩ : ∃ a, ad1 1 = a := ⟨_, rfl⟩
  rw [hb0]
  have h_3 := zeq hF1
  refine lv_dup hx hb dX6_init_8 rfl ?_
  refine zgovN hZ hA (zrunI (rest := [.ref b0, .ref a0]) (k := 1) hb0 hC hZ (c_X2_init l D cy 1 ad1 F1 H.size h_3) iX6_9 (zRjC_of rfl) hl.1 (Nat.le_of_ble_eq_true rfl) dX6_init_9 ⟨(Nat.le_of_ble_eq_true rfl), (Nat.le_of_ble_eq_true rfl)⟩) (fun ad2 F2 hp H locs hZ => ?_)
  have hZ : zH D (zA 1 ad sz) s.heap 13 ad2 F2 H locs := hZ
  refine W.widen (k := 12) (n := 54) (Nat.le_of_ble_eq_true rfl) (Nat.le_of_ble_eq_true rfl) ?_
  obtain ⟨had2, hfr2, hR2⟩ := hp
  have h_4 := (hfr2 0 (by omega)).trans h_1
  have ha_5 := (had2 0 (by omega)).trans ha_2
  have ha_6 := (had2 1 (by omega)).trans hb0
  refine zputFA (E := .inr (6, [.ref b0, .null, .int 0, .null, .null, .null, .null, .null, .null])) ha_5 hC hZ hin pX6_10 (by omega) h_4 rfl rfl rfl (Nat.le_of_ble_eq_true rfl) dX6_init_12 (fun F3 hF3 H locs hZ => ?_)
  have h_7 := zeq hF3
  refine lv_aload_n hx hb dX6_init_15 rfl (lv_at hl 0 rfl) ?_
  refine znew hC hZ hA nX6_7 (Nat.le_of_ble_eq_true rfl) (Nat.le_of_ble_eq_true rfl) dX6_init_16 (fun ad4 F4 had4 hF4 H hZ => ?_)
  have hZ : zH D (zA 1 ad sz) s.heap 14 ad4 F4 H locs := hZ
  refine W.widen (k := 13) (n := 59) (Nat.le_of_ble_eq_true rfl) (Nat.le_of_ble_eq_true rfl) ?_
  have h_8 := zne hF4 (by omega) h_7
  have ha_9 := (had4 0 (by omega)).trans ha_5
  have ha_10 := (had4 1 (by omega)).trans ha_6
  obtain ⟨b1, hb1⟩ : ∃ a, ad4 13 = a := ⟨_, rfl⟩
  rw [hb1]
  have h_11 := zeq hF4
  refine lv_dup hx hb dX6_init_19 rfl ?_
  refine zgovN hZ hA (zrunI (rest := [.ref b1, .ref a0]) (k := 13) hb1 hC hZ (c_X2_init l D cy 13 ad4 F4 H.size h_11) iX6_9 (zRjC_of rfl) hl.1 (Nat.le_of_ble_eq_true rfl) dX6_init_20 ⟨(Nat.le_of_ble_eq_true rfl), (Nat.le_of_ble_eq_true rfl)⟩) (fun ad5 F5 hp H locs hZ => ?_)
  have hZ : zH D (zA 1 ad sz) s.heap 25 ad5 F5 H locs := hZ
  refine W.widen (k := 24) (n := 108) (Nat.le_of_ble_eq_true rfl) (Nat.le_of_ble_eq_true rfl) ?_
  obtain ⟨had5, hfr5, hR5⟩ := hp
  have h_12 := (hfr5 0 (by omega)).trans h_8
  have ha_13 := (had5 0 (by omega)).trans ha_9
  have ha_14 := (had5 1 (by omega)).trans ha_10
  have ha_15 := (had5 13 (by omega)).trans hb1
  refine zputFA (E := .inr (6, [.ref b0, .ref b1, .int 0, .null, .null, .null, .null, .null, .null])) ha_13 hC hZ hin pX6_16 (by omega) h_12 rfl rfl rfl (Nat.le_of_ble_eq_true rfl) dX6_init_23 (fun F6 hF6 H locs hZ => ?_)
  have h_16 := zeq hF6
  refine lv_aload_n hx hb dX6_init_26 rfl (lv_at hl 0 rfl) ?_
  refine lv_iconst (v := 0) hx hb dX6_init_27 (by decide) ?_
  refine zputA (E := .inr (6, [.ref b0, .ref b1, .int 0, .null, .null, .null, .null, .null, .null])) ha_13 hC hZ pX6_19 (by omega) h_16 rfl rfl rfl (Nat.le_of_ble_eq_true rfl) dX6_init_28 (fun F7 hF7 H locs hZ => ?_)
  have h_17 := zeq hF7
  refine lv_aload_n hx hb dX6_init_31 rfl (lv_at hl 0 rfl) ?_
  refine lv_bipush (v := 8) hx hb dX6_init_32 (by decide) ?_
  refine znewq (t := 3) (N := 8) (C := RX4) hC hZ hA rfl (gt_of 157 (by decide +kernel) rfl) (List.mem_of_getElem? (i := 158) (by decide +kernel)) (by decide) (by decide) (Nat.le_of_ble_eq_true rfl) (Nat.le_of_ble_eq_true rfl) (Nat.le_of_ble_eq_true rfl) dX6_init_34 (fun ad8 F8 had8 hF8 H hZ => ?_)
  have hZ : zH D (zA 1 ad sz) s.heap 26 ad8 F8 H locs := hZ
  refine W.widen (k := 25) (n := 116) (Nat.le_of_ble_eq_true rfl) (Nat.le_of_ble_eq_true rfl) ?_
  have h_18 := zne hF8 (by omega) h_17
  have ha_19 := (had8 0 (by omega)).trans ha_13
  have ha_20 := (had8 1 (by omega)).trans ha_14
  have ha_21 := (had8 13 (by omega)).trans ha_15
  obtain ⟨b2, hb2⟩ : ∃ a, ad8 25 = a := ⟨_, rfl⟩
  rw [hb2]
  have h_22 := zeq hF8
  refine zputFA (E := .inr (6, [.ref b0, .ref b1, .int 0, .ref b2, .null, .null, .null, .null, .null])) ha_19 hC hZ hin pX6_25 (by omega) h_18 rfl rfl rfl (Nat.le_of_ble_eq_true rfl) dX6_init_37 (fun F9 hF9 H locs hZ => ?_)
  have h_23 := zne hF9 (by omega) h_22
  have h_24 := zeq hF9
  refine lv_iconst (v := 0) hx hb dX6_init_40 (by decide) ?_
  refine lv_istore_n (lv' := [(1, .int 0), (0, .ref a0)]) hx hb dX6_init_41 rfl hl (by decide) rfl (fun ls hl => ?_)
  refine lv_iload_n hx hb dX6_init_42 rfl (lv_at hl 0 rfl) ?_
  refine lv_bipush (v := 8) hx hb dX6_init_43 (by decide) ?_
  refine lv_icmp_ge (tgt := 67) hx hb dX6_init_45 (by decide) (fun h => absurd (show (8 : Int32) ≤ 0 from h) (by decide)) (fun _ => ?_)
  refine lv_aload_n hx hb dX6_init_48 rfl (lv_at hl 1 rfl) ?_
  refine zgetA ha_19 hC hZ fX6_25 (by omega) h_24 rfl dX6_init_49 ?_
  refine lv_iload_n hx hb dX6_init_52 rfl (lv_at hl 0 rfl) ?_
  refine znew hC hZ hA nX6_23 (Nat.le_of_ble_eq_true rfl) (Nat.le_of_ble_eq_true rfl) dX6_init_53 (fun ad10 F10 had10 hF10 H hZ => ?_)
  have hZ : zH D (zA 1 ad sz) s.heap 27 ad10 F10 H locs := hZ
  refine W.widen (k := 26) (n := 121) (Nat.le_of_ble_eq_true rfl) (Nat.le_of_ble_eq_true rfl) ?_
  have h_25 := zne hF10 (by omega) h_24
  have h_26 := zne hF10 (by omega) h_23
  have ha_27 := (had10 0 (by omega)).trans ha_19
  have ha_28 := (had10 1 (by omega)).trans ha_20
  have ha_29 := (had10 13 (by omega)).trans ha_21
  have ha_30 := (had10 25 (by omega)).trans hb2
  obtain ⟨b3, hb3⟩ : ∃ a, ad10 26 = a := ⟨_, rfl⟩
  rw [hb3]
  have h_31 := zeq hF10
  refine lv_dup hx hb dX6_init_56 rfl ?_
  refine zgovN hZ hA (zrunI (rest := [.ref b3, .int 0, .ref b2]) (k := 26) hb3 hC hZ (c_X4_init l D cy 26 ad10 F10 H.size h_31) iX6_29 (zRjC_of rfl) hl.1 (Nat.le_of_ble_eq_true rfl) dX6_init_57 ⟨(Nat.le_of_ble_eq_true rfl), (Nat.le_of_ble_eq_true rfl)⟩) (fun ad11 F11 hp H locs hZ => ?_)
  have hZ : zH D (zA 1 ad sz) s.heap 29 ad11 F11 H locs := hZ
  refine W.widen (k := 28) (n := 223) (Nat.le_of_ble_eq_true rfl) (Nat.le_of_ble_eq_true rfl) ?_
  obtain ⟨had11, hfr11, hR11⟩ := hp
  have h_32 := (hfr11 0 (by omega)).trans h_25
  have h_33 := (hfr11 25 (by omega)).trans h_26
  have ha_34 := (had11 0 (by omega)).trans ha_27
  have ha_35 := (had11 1 (by omega)).trans ha_28
  have ha_36 := (had11 13 (by omega)).trans ha_29
  have ha_37 := (had11 25 (by omega)).trans ha_30
  have ha_38 := (had11 26 (by omega)).trans hb3
  refine zastqC (x := 0) (t := 3) (C := RX4) (T := TX4) (N0 := 5) ha_37 ha_38 hC hZ (by omega) (by omega) h_33 rfl hR11.1 rfl (by decide) (by decide) (by decide) dX6_init_60 (fun F12 hF12 H locs hZ => ?_)
  have h_39 := zne hF12 (by omega) h_32
  have h_40 : F12 25 = oRefs cy 3 8 (va_up (fun _ => none) 0 (some b3)) := zeq hF12
  refine lv_iinc (v := 1) (lv' := [(1, .int 1), (0, .ref a0)]) hx hb dX6_init_61 hl (k := 0) rfl (by decide) (by decide) rfl (fun ls hl => ?_)
  refine lv_goto (tgt := 42) hx hb dX6_init_64 (by decide) ?_
  refine lv_iload_n hx hb dX6_init_42 rfl (lv_at hl 0 rfl) ?_
  refine lv_bipush (v := 8) hx hb dX6_init_43 (by decide) ?_
  refine lv_icmp_ge (tgt := 67) hx hb dX6_init_45 (by decide) (fun h => absurd (show (8 : Int32) ≤ 1 from h) (by decide)) (fun _ => ?_)
  refine lv_aload_n hx hb dX6_init_48 rfl (lv_at hl 1 rfl) ?_
  refine zgetA ha_34 hC hZ fX6_25 (by omega) h_39 rfl dX6_init_49 ?_
  refine lv_iload_n hx hb dX6_init_52 rfl (lv_at hl 0 rfl) ?_
  refine znew hC hZ hA nX6_23 (Nat.le_of_ble_eq_true rfl) (Nat.le_of_ble_eq_true rfl) dX6_init_53 (fun ad13 F13 had13 hF13 H hZ => ?_)
  have hZ : zH D (zA 1 ad sz) s.heap 30 ad13 F13 H locs := hZ
  refine W.widen (k := 29) (n := 228) (Nat.le_of_ble_eq_true rfl) (Nat.le_of_ble_eq_true rfl) ?_
  have h_41 := zne hF13 (by omega) h_39
  have h_42 := zne hF13 (by omega) h_40
  have ha_43 := (had13 0 (by omega)).trans ha_34
  have ha_44 := (had13 1 (by omega)).trans ha_35
  have ha_45 := (had13 13 (by omega)).trans ha_36
  have ha_46 := (had13 25 (by omega)).trans ha_37
  have ha_47 := (had13 26 (by omega)).trans ha_38
  obtain ⟨b4, hb4⟩ : ∃ a, ad13 29 = a := ⟨_, rfl⟩
  rw [hb4]
  have h_48 := zeq hF13
  refine lv_dup hx hb dX6_init_56 rfl ?_
  refine zgovN hZ hA (zrunI (rest := [.ref b4, .int 1, .ref b2]) (k := 29) hb4 hC hZ (c_X4_init l D cy 29 ad13 F13 H.size h_48) iX6_29 (zRjC_of rfl) hl.1 (Nat.le_of_ble_eq_true rfl) dX6_init_57 ⟨(Nat.le_of_ble_eq_true rfl), (Nat.le_of_ble_eq_true rfl)⟩) (fun ad14 F14 hp H locs hZ => ?_)
  have hZ : zH D (zA 1 ad sz) s.heap 32 ad14 F14 H locs := hZ
  refine W.widen (k := 31) (n := 330) (Nat.le_of_ble_eq_true rfl) (Nat.le_of_ble_eq_true rfl) ?_
  obtain ⟨had14, hfr14, hR14⟩ := hp
  have h_49 := (hfr14 0 (by omega)).trans h_41
  have h_50 := (hfr14 25 (by omega)).trans h_42
  have ha_51 := (had14 0 (by omega)).trans ha_43
  have ha_52 := (had14 1 (by omega)).trans ha_44
  have ha_53 := (had14 13 (by omega)).trans ha_45
  have ha_54 := (had14 25 (by omega)).trans ha_46
  have ha_55 := (had14 26 (by omega)).trans ha_47
  have ha_56 := (had14 29 (by omega)).trans hb4
  refine zastqC (x := 1) (t := 3) (C := RX4) (T := TX4) (N0 := 5) ha_54 ha_56 hC hZ (by omega) (by omega) h_50 rfl hR14.1 rfl (by decide) (by decide) (by decide) dX6_init_60 (fun F15 hF15 H locs hZ => ?_)
  have h_57 := zne hF15 (by omega) h_49
  have h_58 : F15 25 = oRefs cy 3 8 (va_up (va_up (fun _ => none) 0 (some b3)) 1 (some b4)) := zeq hF15
  refine lv_iinc (v := 2) (lv' := [(1, .int 2), (0, .ref a0)]) hx hb dX6_init_61 hl (k := 0) rfl (by decide) (by decide) rfl (fun ls hl => ?_)
  refine lv_goto (tgt := 42) hx hb dX6_init_64 (by decide) ?_
  refine lv_iload_n hx hb dX6_init_42 rfl (lv_at hl 0 rfl) ?_
  refine lv_bipush (v := 8) hx hb dX6_init_43 (by decide) ?_
  refine lv_icmp_ge (tgt := 67) hx hb dX6_init_45 (by decide) (fun h => absurd (show (8 : Int32) ≤ 2 from h) (by decide)) (fun _ => ?_)
  refine lv_aload_n hx hb dX6_init_48 rfl (lv_at hl 1 rfl) ?_
  refine zgetA ha_51 hC hZ fX6_25 (by omega) h_57 rfl dX6_init_49 ?_
  refine lv_iload_n hx hb dX6_init_52 rfl (lv_at hl 0 rfl) ?_
  refine znew hC hZ hA nX6_23 (Nat.le_of_ble_eq_true rfl) (Nat.le_of_ble_eq_true rfl) dX6_init_53 (fun ad16 F16 had16 hF16 H hZ => ?_)
  have hZ : zH D (zA 1 ad sz) s.heap 33 ad16 F16 H locs := hZ
  refine W.widen (k := 32) (n := 335) (Nat.le_of_ble_eq_true rfl) (Nat.le_of_ble_eq_true rfl) ?_
  have h_59 := zne hF16 (by omega) h_57
  have h_60 := zne hF16 (by omega) h_58
  have ha_61 := (had16 0 (by omega)).trans ha_51
  have ha_62 := (had16 1 (by omega)).trans ha_52
  have ha_63 := (had16 13 (by omega)).trans ha_53
  have ha_64 := (had16 25 (by omega)).trans ha_54
  have ha_65 := (had16 26 (by omega)).trans ha_55
  have ha_66 := (had16 29 (by omega)).trans ha_56
  obtain ⟨b5, hb5⟩ : ∃ a, ad16 32 = a := ⟨_, rfl⟩
  rw [hb5]
  have h_67 := zeq hF16
  refine lv_dup hx hb dX6_init_56 rfl ?_
  refine zgovN hZ hA (zrunI (rest := [.ref b5, .int 2, .ref b2]) (k := 32) hb5 hC hZ (c_X4_init l D cy 32 ad16 F16 H.size h_67) iX6_29 (zRjC_of rfl) hl.1 (Nat.le_of_ble_eq_true rfl) dX6_init_57 ⟨(Nat.le_of_ble_eq_true rfl), (Nat.le_of_ble_eq_true rfl)⟩) (fun ad17 F17 hp H locs hZ => ?_)
  have hZ : zH D (zA 1 ad sz) s.heap 35 ad17 F17 H locs := hZ
  refine W.widen (k := 34) (n := 437) (Nat.le_of_ble_eq_true rfl) (Nat.le_of_ble_eq_true rfl) ?_
  obtain ⟨had17, hfr17, hR17⟩ := hp
  have h_68 := (hfr17 0 (by omega)).trans h_59
  have h_69 := (hfr17 25 (by omega)).trans h_60
  have ha_70 := (had17 0 (by omega)).trans ha_61
  have ha_71 := (had17 1 (by omega)).trans ha_62
  have ha_72 := (had17 13 (by omega)).trans ha_63
  have ha_73 := (had17 25 (by omega)).trans ha_64
  have ha_74 := (had17 26 (by omega)).trans ha_65
  have ha_75 := (had17 29 (by omega)).trans ha_66
  have ha_76 := (had17 32 (by omega)).trans hb5
  refine zastqC (x := 2) (t := 3) (C := RX4) (T := TX4) (N0 := 5) ha_73 ha_76 hC hZ (by omega) (by omega) h_69 rfl hR17.1 rfl (by decide) (by decide) (by decide) dX6_init_60 (fun F18 hF18 H locs hZ => ?_)
  have h_77 := zne hF18 (by omega) h_68
  have h_78 : F18 25 = oRefs cy 3 8 (va_up (va_up (va_up (fun _ => none) 0 (some b3)) 1 (some b4)) 2 (some b5)) := zeq hF18
  refine lv_iinc (v := 3) (lv' := [(1, .int 3), (0, .ref a0)]) hx hb dX6_init_61 hl (k := 0) rfl (by decide) (by decide) rfl (fun ls hl => ?_)
  refine lv_goto (tgt := 42) hx hb dX6_init_64 (by decide) ?_
  refine lv_iload_n hx hb dX6_init_42 rfl (lv_at hl 0 rfl) ?_
  refine lv_bipush (v := 8) hx hb dX6_init_43 (by decide) ?_
  refine lv_icmp_ge (tgt := 67) hx hb dX6_init_45 (by decide) (fun h => absurd (show (8 : Int32) ≤ 3 from h) (by decide)) (fun _ => ?_)
  refine lv_aload_n hx hb dX6_init_48 rfl (lv_at hl 1 rfl) ?_
  refine zgetA ha_70 hC hZ fX6_25 (by omega) h_77 rfl dX6_init_49 ?_
  refine lv_iload_n hx hb dX6_init_52 rfl (lv_at hl 0 rfl) ?_
  refine znew hC hZ hA nX6_23 (Nat.le_of_ble_eq_true rfl) (Nat.le_of_ble_eq_true rfl) dX6_init_53 (fun ad19 F19 had19 hF19 H hZ => ?_)
  have hZ : zH D (zA 1 ad sz) s.heap 36 ad19 F19 H locs := hZ
  refine W.widen (k := 35) (n := 442) (Nat.le_of_ble_eq_true rfl) (Nat.le_of_ble_eq_true rfl) ?_
  have h_79 := zne hF19 (by omega) h_77
  have h_80 := zne hF19 (by omega) h_78
  have ha_81 := (had19 0 (by omega)).trans ha_70
  have ha_82 := (had19 1 (by omega)).trans ha_71
  have ha_83 := (had19 13 (by omega)).trans ha_72
  have ha_84 := (had19 25 (by omega)).trans ha_73
  have ha_85 := (had19 26 (by omega)).trans ha_74
  have ha_86 := (had19 29 (by omega)).trans ha_75
  have ha_87 := (had19 32 (by omega)).trans ha_76
  obtain ⟨b6, hb6⟩ : ∃ a, ad19 35 = a := ⟨_, rfl⟩
  rw [hb6]
  have h_88 := zeq hF19
  refine lv_dup hx hb dX6_init_56 rfl ?_
  refine zgovN hZ hA (zrunI (rest := [.ref b6, .int 3, .ref b2]) (k := 35) hb6 hC hZ (c_X4_init l D cy 35 ad19 F19 H.size h_88) iX6_29 (zRjC_of rfl) hl.1 (Nat.le_of_ble_eq_true rfl) dX6_init_57 ⟨(Nat.le_of_ble_eq_true rfl), (Nat.le_of_ble_eq_true rfl)⟩) (fun ad20 F20 hp H locs hZ => ?_)
  have hZ : zH D (zA 1 ad sz) s.heap 38 ad20 F20 H locs := hZ
  refine W.widen (k := 37) (n := 544) (Nat.le_of_ble_eq_true rfl) (Nat.le_of_ble_eq_true rfl) ?_
  obtain ⟨had20, hfr20, hR20⟩ := hp
  have h_89 := (hfr20 0 (by omega)).trans h_79
  have h_90 := (hfr20 25 (by omega)).trans h_80
  have ha_91 := (had20 0 (by omega)).trans ha_81
  have ha_92 := (had20 1 (by omega)).trans ha_82
  have ha_93 := (had20 13 (by omega)).trans ha_83
  have ha_94 := (had20 25 (by omega)).trans ha_84
  have ha_95 := (had20 26 (by omega)).trans ha_85
  have ha_96 := (had20 29 (by omega)).trans ha_86
  have ha_97 := (had20 32 (by omega)).trans ha_87
  have ha_98 := (had20 35 (by omega)).trans hb6
  refine zastqC (x := 3) (t := 3) (C := RX4) (T := TX4) (N0 := 5) ha_94 ha_98 hC hZ (by omega) (by omega) h_90 rfl hR20.1 rfl (by decide) (by decide) (by decide) dX6_init_60 (fun F21 hF21 H locs hZ => ?_)
  have h_99 := zne hF21 (by omega) h_89
  have h_100 : F21 25 = oRefs cy 3 8 (va_up (va_up (va_up (va_up (fun _ => none) 0 (some b3)) 1 (some b4)) 2 (some b5)) 3 (some b6)) := zeq hF21
  refine lv_iinc (v := 4) (lv' := [(1, .int 4), (0, .ref a0)]) hx hb dX6_init_61 hl (k := 0) rfl (by decide) (by decide) rfl (fun ls hl => ?_)
  refine lv_goto (tgt := 42) hx hb dX6_init_64 (by decide) ?_
  refine lv_iload_n hx hb dX6_init_42 rfl (lv_at hl 0 rfl) ?_
  refine lv_bipush (v := 8) hx hb dX6_init_43 (by decide) ?_
  refine lv_icmp_ge (tgt := 67) hx hb dX6_init_45 (by decide) (fun h => absurd (show (8 : Int32) ≤ 4 from h) (by decide)) (fun _ => ?_)
  refine lv_aload_n hx hb dX6_init_48 rfl (lv_at hl 1 rfl) ?_
  refine zgetA ha_91 hC hZ fX6_25 (by omega) h_99 rfl dX6_init_49 ?_
  refine lv_iload_n hx hb dX6_init_52 rfl (lv_at hl 0 rfl) ?_
  refine znew hC hZ hA nX6_23 (Nat.le_of_ble_eq_true rfl) (Nat.le_of_ble_eq_true rfl) dX6_init_53 (fun ad22 F22 had22 hF22 H hZ => ?_)
  have hZ : zH D (zA 1 ad sz) s.heap 39 ad22 F22 H locs := hZ
  refine W.widen (k := 38) (n := 549) (Nat.le_of_ble_eq_true rfl) (Nat.le_of_ble_eq_true rfl) ?_
  have h_101 := zne hF22 (by omega) h_99
  have h_102 := zne hF22 (by omega) h_100
  have ha_103 := (had22 0 (by omega)).trans ha_91
  have ha_104 := (had22 1 (by omega)).trans ha_92
  have ha_105 := (had22 13 (by omega)).trans ha_93
  have ha_106 := (had22 25 (by omega)).trans ha_94
  have ha_107 := (had22 26 (by omega)).trans ha_95
  have ha_108 := (had22 29 (by omega)).trans ha_96
  have ha_109 := (had22 32 (by omega)).trans ha_97
  have ha_110 := (had22 35 (by omega)).trans ha_98
  obtain ⟨b7, hb7⟩ : ∃ a, ad22 38 = a := ⟨_, rfl⟩
  rw [hb7]
  have h_111 := zeq hF22
  refine lv_dup hx hb dX6_init_56 rfl ?_
  refine zgovN hZ hA (zrunI (rest := [.ref b7, .int 4, .ref b2]) (k := 38) hb7 hC hZ (c_X4_init l D cy 38 ad22 F22 H.size h_111) iX6_29 (zRjC_of rfl) hl.1 (Nat.le_of_ble_eq_true rfl) dX6_init_57 ⟨(Nat.le_of_ble_eq_true rfl), (Nat.le_of_ble_eq_true rfl)⟩) (fun ad23 F23 hp H locs hZ => ?_)
  have hZ : zH D (zA 1 ad sz) s.heap 41 ad23 F23 H locs := hZ
  refine W.widen (k := 40) (n := 651) (Nat.le_of_ble_eq_true rfl) (Nat.le_of_ble_eq_true rfl) ?_
  obtain ⟨had23, hfr23, hR23⟩ := hp
  have h_112 := (hfr23 0 (by omega)).trans h_101
  have h_113 := (hfr23 25 (by omega)).trans h_102
  have ha_114 := (had23 0 (by omega)).trans ha_103
  have ha_115 := (had23 1 (by omega)).trans ha_104
  have ha_116 := (had23 13 (by omega)).trans ha_105
  have ha_117 := (had23 25 (by omega)).trans ha_106
  have ha_118 := (had23 26 (by omega)).trans ha_107
  have ha_119 := (had23 29 (by omega)).trans ha_108
  have ha_120 := (had23 32 (by omega)).trans ha_109
  have ha_121 := (had23 35 (by omega)).trans ha_110
  have ha_122 := (had23 38 (by omega)).trans hb7
  refine zastqC (x := 4) (t := 3) (C := RX4) (T := TX4) (N0 := 5) ha_117 ha_122 hC hZ (by omega) (by omega) h_113 rfl hR23.1 rfl (by decide) (by decide) (by decide) dX6_init_60 (fun F24 hF24 H locs hZ => ?_)
  have h_123 := zne hF24 (by omega) h_112
  have h_124 : F24 25 = oRefs cy 3 8 (va_up (va_up (va_up (va_up (va_up (fun _ => none) 0 (some b3)) 1 (some b4)) 2 (some b5)) 3 (some b6)) 4 (some b7)) := zeq hF24
  refine lv_iinc (v := 5) (lv' := [(1, .int 5), (0, .ref a0)]) hx hb dX6_init_61 hl (k := 0) rfl (by decide) (by decide) rfl (fun ls hl => ?_)
  refine lv_goto (tgt := 42) hx hb dX6_init_64 (by decide) ?_
  refine lv_iload_n hx hb dX6_init_42 rfl (lv_at hl 0 rfl) ?_
  refine lv_bipush (v := 8) hx hb dX6_init_43 (by decide) ?_
  refine lv_icmp_ge (tgt := 67) hx hb dX6_init_45 (by decide) (fun h => absurd (show (8 : Int32) ≤ 5 from h) (by decide)) (fun _ => ?_)
  refine lv_aload_n hx hb dX6_init_48 rfl (lv_at hl 1 rfl) ?_
  refine zgetA ha_114 hC hZ fX6_25 (by omega) h_123 rfl dX6_init_49 ?_
  refine lv_iload_n hx hb dX6_init_52 rfl (lv_at hl 0 rfl) ?_
  refine znew hC hZ hA nX6_23 (Nat.le_of_ble_eq_true rfl) (Nat.le_of_ble_eq_true rfl) dX6_init_53 (fun ad25 F25 had25 hF25 H hZ => ?_)
  have hZ : zH D (zA 1 ad sz) s.heap 42 ad25 F25 H locs := hZ
  refine W.widen (k := 41) (n := 656) (Nat.le_of_ble_eq_true rfl) (Nat.le_of_ble_eq_true rfl) ?_
  have h_125 := zne hF25 (by omega) h_123
  have h_126 := zne hF25 (by omega) h_124
  have ha_127 := (had25 0 (by omega)).trans ha_114
  have ha_128 := (had25 1 (by omega)).trans ha_115
  have ha_129 := (had25 13 (by omega)).trans ha_116
  have ha_130 := (had25 25 (by omega)).trans ha_117
  have ha_131 := (had25 26 (by omega)).trans ha_118
  have ha_132 := (had25 29 (by omega)).trans ha_119
  have ha_133 := (had25 32 (by omega)).trans ha_120
  have ha_134 := (had25 35 (by omega)).trans ha_121
  have ha_135 := (had25 38 (by omega)).trans ha_122
  obtain ⟨b8, hb8⟩ : ∃ a, ad25 41 = a := ⟨_, rfl⟩
  rw [hb8]
  have h_136 := zeq hF25
  refine lv_dup hx hb dX6_init_56 rfl ?_
  refine zgovN hZ hA (zrunI (rest := [.ref b8, .int 5, .ref b2]) (k := 41) hb8 hC hZ (c_X4_init l D cy 41 ad25 F25 H.size h_136) iX6_29 (zRjC_of rfl) hl.1 (Nat.le_of_ble_eq_true rfl) dX6_init_57 ⟨(Nat.le_of_ble_eq_true rfl), (Nat.le_of_ble_eq_true rfl)⟩) (fun ad26 F26 hp H locs hZ => ?_)
  have hZ : zH D (zA 1 ad sz) s.heap 44 ad26 F26 H locs := hZ
  refine W.widen (k := 43) (n := 758) (Nat.le_of_ble_eq_true rfl) (Nat.le_of_ble_eq_true rfl) ?_
  obtain ⟨had26, hfr26, hR26⟩ := hp
  have h_137 := (hfr26 0 (by omega)).trans h_125
  have h_138 := (hfr26 25 (by omega)).trans h_126
  have ha_139 := (had26 0 (by omega)).trans ha_127
  have ha_140 := (had26 1 (by omega)).trans ha_128
  have ha_141 := (had26 13 (by omega)).trans ha_129
  have ha_142 := (had26 25 (by omega)).trans ha_130
  have ha_143 := (had26 26 (by omega)).trans ha_131
  have ha_144 := (had26 29 (by omega)).trans ha_132
  have ha_145 := (had26 32 (by omega)).trans ha_133
  have ha_146 := (had26 35 (by omega)).trans ha_134
  have ha_147 := (had26 38 (by omega)).trans ha_135
  have ha_148 := (had26 41 (by omega)).trans hb8
  refine zastqC (x := 5) (t := 3) (C := RX4) (T := TX4) (N0 := 5) ha_142 ha_148 hC hZ (by omega) (by omega) h_138 rfl hR26.1 rfl (by decide) (by decide) (by decide) dX6_init_60 (fun F27 hF27 H locs hZ => ?_)
  have h_149 := zne hF27 (by omega) h_137
  have h_150 : F27 25 = oRefs cy 3 8 (va_up (va_up (va_up (va_up (va_up (va_up (fun _ => none) 0 (some b3)) 1 (some b4)) 2 (some b5)) 3 (some b6)) 4 (some b7)) 5 (some b8)) := zeq hF27
  refine lv_iinc (v := 6) (lv' := [(1, .int 6), (0, .ref a0)]) hx hb dX6_init_61 hl (k := 0) rfl (by decide) (by decide) rfl (fun ls hl => ?_)
  refine lv_goto (tgt := 42) hx hb dX6_init_64 (by decide) ?_
  refine lv_iload_n hx hb dX6_init_42 rfl (lv_at hl 0 rfl) ?_
  refine lv_bipush (v := 8) hx hb dX6_init_43 (by decide) ?_
  refine lv_icmp_ge (tgt := 67) hx hb dX6_init_45 (by decide) (fun h => absurd (show (8 : Int32) ≤ 6 from h) (by decide)) (fun _ => ?_)
  refine lv_aload_n hx hb dX6_init_48 rfl (lv_at hl 1 rfl) ?_
  refine zgetA ha_139 hC hZ fX6_25 (by omega) h_149 rfl dX6_init_49 ?_
  refine lv_iload_n hx hb dX6_init_52 rfl (lv_at hl 0 rfl) ?_
  refine znew hC hZ hA nX6_23 (Nat.le_of_ble_eq_true rfl) (Nat.le_of_ble_eq_true rfl) dX6_init_53 (fun ad28 F28 had28 hF28 H hZ => ?_)
  have hZ : zH D (zA 1 ad sz) s.heap 45 ad28 F28 H locs := hZ
  refine W.widen (k := 44) (n := 763) (Nat.le_of_ble_eq_true rfl) (Nat.le_of_ble_eq_true rfl) ?_
  have h_151 := zne hF28 (by omega) h_149
  have h_152 := zne hF28 (by omega) h_150
  have ha_153 := (had28 0 (by omega)).trans ha_139
  have ha_154 := (had28 1 (by omega)).trans ha_140
  have ha_155 := (had28 13 (by omega)).trans ha_141
  have ha_156 := (had28 25 (by omega)).trans ha_142
  have ha_157 := (had28 26 (by omega)).trans ha_143
  have ha_158 := (had28 29 (by omega)).trans ha_144
  have ha_159 := (had28 32 (by omega)).trans ha_145
  have ha_160 := (had28 35 (by omega)).trans ha_146
  have ha_161 := (had28 38 (by omega)).trans ha_147
  have ha_162 := (had28 41 (by omega)).trans ha_148
  obtain ⟨b9, hb9⟩ : ∃ a, ad28 44 = a := ⟨_, rfl⟩
  rw [hb9]
  have h_163 := zeq hF28
  refine lv_dup hx hb dX6_init_56 rfl ?_
  refine zgovN hZ hA (zrunI (rest := [.ref b9, .int 6, .ref b2]) (k := 44) hb9 hC hZ (c_X4_init l D cy 44 ad28 F28 H.size h_163) iX6_29 (zRjC_of rfl) hl.1 (Nat.le_of_ble_eq_true rfl) dX6_init_57 ⟨(Nat.le_of_ble_eq_true rfl), (Nat.le_of_ble_eq_true rfl)⟩) (fun ad29 F29 hp H locs hZ => ?_)
  have hZ : zH D (zA 1 ad sz) s.heap 47 ad29 F29 H locs := hZ
  refine W.widen (k := 46) (n := 865) (Nat.le_of_ble_eq_true rfl) (Nat.le_of_ble_eq_true rfl) ?_
  obtain ⟨had29, hfr29, hR29⟩ := hp
  have h_164 := (hfr29 0 (by omega)).trans h_151
  have h_165 := (hfr29 25 (by omega)).trans h_152
  have ha_166 := (had29 0 (by omega)).trans ha_153
  have ha_167 := (had29 1 (by omega)).trans ha_154
  have ha_168 := (had29 13 (by omega)).trans ha_155
  have ha_169 := (had29 25 (by omega)).trans ha_156
  have ha_170 := (had29 26 (by omega)).trans ha_157
  have ha_171 := (had29 29 (by omega)).trans ha_158
  have ha_172 := (had29 32 (by omega)).trans ha_159
  have ha_173 := (had29 35 (by omega)).trans ha_160
  have ha_174 := (had29 38 (by omega)).trans ha_161
  have ha_175 := (had29 41 (by omega)).trans ha_162
  have ha_176 := (had29 44 (by omega)).trans hb9
  refine zastqC (x := 6) (t := 3) (C := RX4) (T := TX4) (N0 := 5) ha_169 ha_176 hC hZ (by omega) (by omega) h_165 rfl hR29.1 rfl (by decide) (by decide) (by decide) dX6_init_60 (fun F30 hF30 H locs hZ => ?_)
  have h_177 := zne hF30 (by omega) h_164
  have h_178 : F30 25 = oRefs cy 3 8 (va_up (va_up (va_up (va_up (va_up (va_up (va_up (fun _ => none) 0 (some b3)) 1 (some b4)) 2 (some b5)) 3 (some b6)) 4 (some b7)) 5 (some b8)) 6 (some b9)) := zeq hF30
  refine lv_iinc (v := 7) (lv' := [(1, .int 7), (0, .ref a0)]) hx hb dX6_init_61 hl (k := 0) rfl (by decide) (by decide) rfl (fun ls hl => ?_)
  refine lv_goto (tgt := 42) hx hb dX6_init_64 (by decide) ?_
  refine lv_iload_n hx hb dX6_init_42 rfl (lv_at hl 0 rfl) ?_
  refine lv_bipush (v := 8) hx hb dX6_init_43 (by decide) ?_
  refine lv_icmp_ge (tgt := 67) hx hb dX6_init_45 (by decide) (fun h => absurd (show (8 : Int32) ≤ 7 from h) (by decide)) (fun _ => ?_)
  refine lv_aload_n hx hb dX6_init_48 rfl (lv_at hl 1 rfl) ?_
  refine zgetA ha_166 hC hZ fX6_25 (by omega) h_177 rfl dX6_init_49 ?_
  refine lv_iload_n hx hb dX6_init_52 rfl (lv_at hl 0 rfl) ?_
  refine znew hC hZ hA nX6_23 (Nat.le_of_ble_eq_true rfl) (Nat.le_of_ble_eq_true rfl) dX6_init_53 (fun ad31 F31 had31 hF31 H hZ => ?_)
  have hZ : zH D (zA 1 ad sz) s.heap 48 ad31 F31 H locs := hZ
  refine W.widen (k := 47) (n := 870) (Nat.le_of_ble_eq_true rfl) (Nat.le_of_ble_eq_true rfl) ?_
  have h_179 := zne hF31 (by omega) h_177
  have h_180 := zne hF31 (by omega) h_178
  have ha_181 := (had31 0 (by omega)).trans ha_166
  have ha_182 := (had31 1 (by omega)).trans ha_167
  have ha_183 := (had31 13 (by omega)).trans ha_168
  have ha_184 := (had31 25 (by omega)).trans ha_169
  have ha_185 := (had31 26 (by omega)).trans ha_170
  have ha_186 := (had31 29 (by omega)).trans ha_171
  have ha_187 := (had31 32 (by omega)).trans ha_172
  have ha_188 := (had31 35 (by omega)).trans ha_173
  have ha_189 := (had31 38 (by omega)).trans ha_174
  have ha_190 := (had31 41 (by omega)).trans ha_175
  have ha_191 := (had31 44 (by omega)).trans ha_176
  obtain ⟨b10, hb10⟩ : ∃ a, ad31 47 = a := ⟨_, rfl⟩
  rw [hb10]
  have h_192 := zeq hF31
  refine lv_dup hx hb dX6_init_56 rfl ?_
  refine zgovN hZ hA (zrunI (rest := [.ref b10, .int 7, .ref b2]) (k := 47) hb10 hC hZ (c_X4_init l D cy 47 ad31 F31 H.size h_192) iX6_29 (zRjC_of rfl) hl.1 (Nat.le_of_ble_eq_true rfl) dX6_init_57 ⟨(Nat.le_of_ble_eq_true rfl), (Nat.le_of_ble_eq_true rfl)⟩) (fun ad32 F32 hp H locs hZ => ?_)
  have hZ : zH D (zA 1 ad sz) s.heap 50 ad32 F32 H locs := hZ
  refine W.widen (k := 49) (n := 972) (Nat.le_of_ble_eq_true rfl) (Nat.le_of_ble_eq_true rfl) ?_
  obtain ⟨had32, hfr32, hR32⟩ := hp
  have h_193 := (hfr32 0 (by omega)).trans h_179
  have h_194 := (hfr32 25 (by omega)).trans h_180
  have ha_195 := (had32 0 (by omega)).trans ha_181
  have ha_196 := (had32 1 (by omega)).trans ha_182
  have ha_197 := (had32 13 (by omega)).trans ha_183
  have ha_198 := (had32 25 (by omega)).trans ha_184
  have ha_199 := (had32 26 (by omega)).trans ha_185
  have ha_200 := (had32 29 (by omega)).trans ha_186
  have ha_201 := (had32 32 (by omega)).trans ha_187
  have ha_202 := (had32 35 (by omega)).trans ha_188
  have ha_203 := (had32 38 (by omega)).trans ha_189
  have ha_204 := (had32 41 (by omega)).trans ha_190
  have ha_205 := (had32 44 (by omega)).trans ha_191
  have ha_206 := (had32 47 (by omega)).trans hb10
  refine zastqC (x := 7) (t := 3) (C := RX4) (T := TX4) (N0 := 5) ha_198 ha_206 hC hZ (by omega) (by omega) h_194 rfl hR32.1 rfl (by decide) (by decide) (by decide) dX6_init_60 (fun F33 hF33 H locs hZ => ?_)
  have h_207 := zne hF33 (by omega) h_193
  have h_208 : F33 25 = oRefs cy 3 8 (va_up (va_up (va_up (va_up (va_up (va_up (va_up (va_up (fun _ => none) 0 (some b3)) 1 (some b4)) 2 (some b5)) 3 (some b6)) 4 (some b7)) 5 (some b8)) 6 (some b9)) 7 (some b10)) := zeq hF33
  refine lv_iinc (v := 8) (lv' := [(1, .int 8), (0, .ref a0)]) hx hb dX6_init_61 hl (k := 0) rfl (by decide) (by decide) rfl (fun ls hl => ?_)
  refine lv_goto (tgt := 42) hx hb dX6_init_64 (by decide) ?_
  refine lv_iload_n hx hb dX6_init_42 rfl (lv_at hl 0 rfl) ?_
  refine lv_bipush (v := 8) hx hb dX6_init_43 (by decide) ?_
  refine lv_icmp_ge (tgt := 67) hx hb dX6_init_45 (by decide) (fun _ => ?_) (fun h => absurd (show (8 : Int32) ≤ 8 by decide) h)
  refine lv_aload_n hx hb dX6_init_67 rfl (lv_at hl 1 rfl) ?_
  refine znew hC hZ hA nX6_30 (Nat.le_of_ble_eq_true rfl) (Nat.le_of_ble_eq_true rfl) dX6_init_68 (fun ad34 F34 had34 hF34 H hZ => ?_)
  have hZ : zH D (zA 1 ad sz) s.heap 51 ad34 F34 H locs := hZ
  refine W.widen (k := 50) (n := 976) (Nat.le_of_ble_eq_true rfl) (Nat.le_of_ble_eq_true rfl) ?_
  have h_209 := zne hF34 (by omega) h_207
  have h_210 := zne hF34 (by omega) h_208
  have ha_211 := (had34 0 (by omega)).trans ha_195
  have ha_212 := (had34 1 (by omega)).trans ha_196
  have ha_213 := (had34 13 (by omega)).trans ha_197
  have ha_214 := (had34 25 (by omega)).trans ha_198
  have ha_215 := (had34 26 (by omega)).trans ha_199
  have ha_216 := (had34 29 (by omega)).trans ha_200
  have ha_217 := (had34 32 (by omega)).trans ha_201
  have ha_218 := (had34 35 (by omega)).trans ha_202
  have ha_219 := (had34 38 (by omega)).trans ha_203
  have ha_220 := (had34 41 (by omega)).trans ha_204
  have ha_221 := (had34 44 (by omega)).trans ha_205
  have ha_222 := (had34 47 (by omega)).trans ha_206
  obtain ⟨b11, hb11⟩ : ∃ a, ad34 50 = a := ⟨_, rfl⟩
  rw [hb11]
  have h_223 := zeq hF34
  refine lv_dup hx hb dX6_init_71 rfl ?_
  refine zgovN hZ hA (zrunI (rest := [.ref b11, .ref a0]) (k := 50) hb11 hC hZ (c_X1_init l D cy 50 ad34 F34 H.size h_223) iX6_32 (zRjC_of rfl) hl.1 (Nat.le_of_ble_eq_true rfl) dX6_init_72 ⟨(Nat.le_of_ble_eq_true rfl), (Nat.le_of_ble_eq_true rfl)⟩) (fun ad35 F35 hp H locs hZ => ?_)
  have hZ : zH D (zA 1 ad sz) s.heap 52 ad35 F35 H locs := hZ
  refine W.widen (k := 51) (n := 1076) (Nat.le_of_ble_eq_true rfl) (Nat.le_of_ble_eq_true rfl) ?_
  obtain ⟨had35, hfr35, hR35⟩ := hp
  have h_224 := (hfr35 0 (by omega)).trans h_209
  have h_225 := (hfr35 25 (by omega)).trans h_210
  have ha_226 := (had35 0 (by omega)).trans ha_211
  have ha_227 := (had35 1 (by omega)).trans ha_212
  have ha_228 := (had35 13 (by omega)).trans ha_213
  have ha_229 := (had35 25 (by omega)).trans ha_214
  have ha_230 := (had35 26 (by omega)).trans ha_215
  have ha_231 := (had35 29 (by omega)).trans ha_216
  have ha_232 := (had35 32 (by omega)).trans ha_217
  have ha_233 := (had35 35 (by omega)).trans ha_218
  have ha_234 := (had35 38 (by omega)).trans ha_219
  have ha_235 := (had35 41 (by omega)).trans ha_220
  have ha_236 := (had35 44 (by omega)).trans ha_221
  have ha_237 := (had35 47 (by omega)).trans ha_222
  have ha_238 := (had35 50 (by omega)).trans hb11
  refine zputFA (E := .inr (6, [.ref b0, .ref b1, .int 0, .ref b2, .ref b11, .null, .null, .null, .null])) ha_226 hC hZ hin pX6_33 (by omega) h_224 rfl rfl rfl (Nat.le_of_ble_eq_true rfl) dX6_init_75 (fun F36 hF36 H locs hZ => ?_)
  have h_239 := zne hF36 (by omega) h_225
  have h_240 := zeq hF36
  refine lv_aload_n hx hb dX6_init_78 rfl (lv_at hl 1 rfl) ?_
  refine znew hC hZ hA nX6_37 (Nat.le_of_ble_eq_true rfl) (Nat.le_of_ble_eq_true rfl) dX6_init_79 (fun ad37 F37 had37 hF37 H hZ => ?_)
  have hZ : zH D (zA 1 ad sz) s.heap 53 ad37 F37 H locs := hZ
  refine W.widen (k := 52) (n := 1080) (Nat.le_of_ble_eq_true rfl) (Nat.le_of_ble_eq_true rfl) ?_
  have h_241 := zne hF37 (by omega) h_240
  have h_242 := zne hF37 (by omega) h_239
  have ha_243 := (had37 0 (by omega)).trans ha_226
  have ha_244 := (had37 1 (by omega)).trans ha_227
  have ha_245 := (had37 13 (by omega)).trans ha_228
  have ha_246 := (had37 25 (by omega)).trans ha_229
  have ha_247 := (had37 26 (by omega)).trans ha_230
  have ha_248 := (had37 29 (by omega)).trans ha_231
  have ha_249 := (had37 32 (by omega)).trans ha_232
  have ha_250 := (had37 35 (by omega)).trans ha_233
  have ha_251 := (had37 38 (by omega)).trans ha_234
  have ha_252 := (had37 41 (by omega)).trans ha_235
  have ha_253 := (had37 44 (by omega)).trans ha_236
  have ha_254 := (had37 47 (by omega)).trans ha_237
  have ha_255 := (had37 50 (by omega)).trans ha_238
  obtain ⟨b12, hb12⟩ : ∃ a, ad37 52 = a := ⟨_, rfl⟩
  rw [hb12]
  have h_256 := zeq hF37
  refine lv_dup hx hb dX6_init_82 rfl ?_
  refine zgovC hZ hA (zrunI (rest := [.ref b12, .ref a0]) (k := 52) hb12 hC hZ (c_X3_init l D cy 53 ad37 F37 H.size 52 (by omega) h_256) iX6_39 (zRjC_of rfl) hl.1 (Nat.le_of_ble_eq_true rfl) dX6_init_83 ⟨(Nat.le_of_ble_eq_true rfl), (Nat.le_of_ble_eq_true rfl)⟩) (fun F38 hF38 H locs hZ => ?_)
  have hZ : zH D (zA 1 ad sz) s.heap 53 ad37 F38 H locs := hZ
  have h_257 := zne hF38 (by omega) h_241
  have h_258 := zne hF38 (by omega) h_242
  have h_259 : F38 52 = oSetting (50, 20, 0, 100) := zeq hF38
  refine zputFA (E := .inr (6, [.ref b0, .ref b1, .int 0, .ref b2, .ref b11, .ref b12, .null, .null, .null])) ha_243 hC hZ hin pX6_40 (by omega) h_257 rfl rfl rfl (Nat.le_of_ble_eq_true rfl) dX6_init_86 (fun F39 hF39 H locs hZ => ?_)
  have h_260 := zne hF39 (by omega) h_258
  have h_261 := zeq hF39
  refine lv_aload_n hx hb dX6_init_89 rfl (lv_at hl 1 rfl) ?_
  refine znew hC hZ hA nX6_44 (Nat.le_of_ble_eq_true rfl) (Nat.le_of_ble_eq_true rfl) dX6_init_90 (fun ad40 F40 had40 hF40 H hZ => ?_)
  have hZ : zH D (zA 1 ad sz) s.heap 54 ad40 F40 H locs := hZ
  refine W.widen (k := 53) (n := 1082) (Nat.le_of_ble_eq_true rfl) (Nat.le_of_ble_eq_true rfl) ?_
  have h_262 := zne hF40 (by omega) h_261
  have h_263 := zne hF40 (by omega) h_260
  have ha_264 := (had40 0 (by omega)).trans ha_243
  have ha_265 := (had40 1 (by omega)).trans ha_244
  have ha_266 := (had40 13 (by omega)).trans ha_245
  have ha_267 := (had40 25 (by omega)).trans ha_246
  have ha_268 := (had40 26 (by omega)).trans ha_247
  have ha_269 := (had40 29 (by omega)).trans ha_248
  have ha_270 := (had40 32 (by omega)).trans ha_249
  have ha_271 := (had40 35 (by omega)).trans ha_250
  have ha_272 := (had40 38 (by omega)).trans ha_251
  have ha_273 := (had40 41 (by omega)).trans ha_252
  have ha_274 := (had40 44 (by omega)).trans ha_253
  have ha_275 := (had40 47 (by omega)).trans ha_254
  have ha_276 := (had40 50 (by omega)).trans ha_255
  have ha_277 := (had40 52 (by omega)).trans hb12
  obtain ⟨b13, hb13⟩ : ∃ a, ad40 53 = a := ⟨_, rfl⟩
  rw [hb13]
  have h_278 := zeq hF40
  refine lv_dup hx hb dX6_init_93 rfl ?_
  refine zgovC hZ hA (zrunI (rest := [.ref b13, .ref a0]) (k := 53) hb13 hC hZ (c_X5_init l D cy 54 ad40 F40 H.size 53 (by omega) h_278) iX6_46 (zRjC_of rfl) hl.1 (Nat.le_of_ble_eq_true rfl) dX6_init_94 ⟨(Nat.le_of_ble_eq_true rfl), (Nat.le_of_ble_eq_true rfl)⟩) (fun F41 hF41 H locs hZ => ?_)
  have hZ : zH D (zA 1 ad sz) s.heap 54 ad40 F41 H locs := hZ
  have h_279 := zne hF41 (by omega) h_262
  have h_280 := zne hF41 (by omega) h_263
  have h_281 : F41 53 = oTale (0, 0) := zeq hF41
  refine zputFA (E := .inr (6, [.ref b0, .ref b1, .int 0, .ref b2, .ref b11, .ref b12, .ref b13, .null, .null])) ha_264 hC hZ hin pX6_47 (by omega) h_279 rfl rfl rfl (Nat.le_of_ble_eq_true rfl) dX6_init_97 (fun F42 hF42 H locs hZ => ?_)
  have h_282 := zne hF42 (by omega) h_280
  have h_283 := zeq hF42
  refine lv_aload_n hx hb dX6_init_100 rfl (lv_at hl 1 rfl) ?_
  refine znew hC hZ hA nX6_44 (Nat.le_of_ble_eq_true rfl) (Nat.le_of_ble_eq_true rfl) dX6_init_101 (fun ad43 F43 had43 hF43 H hZ => ?_)
  have hZ : zH D (zA 1 ad sz) s.heap 55 ad43 F43 H locs := hZ
  refine W.widen (k := 54) (n := 1084) (Nat.le_of_ble_eq_true rfl) (Nat.le_of_ble_eq_true rfl) ?_
  have h_284 := zne hF43 (by omega) h_283
  have h_285 := zne hF43 (by omega) h_282
  have ha_286 := (had43 0 (by omega)).trans ha_264
  have ha_287 := (had43 1 (by omega)).trans ha_265
  have ha_288 := (had43 13 (by omega)).trans ha_266
  have ha_289 := (had43 25 (by omega)).trans ha_267
  have ha_290 := (had43 26 (by omega)).trans ha_268
  have ha_291 := (had43 29 (by omega)).trans ha_269
  have ha_292 := (had43 32 (by omega)).trans ha_270
  have ha_293 := (had43 35 (by omega)).trans ha_271
  have ha_294 := (had43 38 (by omega)).trans ha_272
  have ha_295 := (had43 41 (by omega)).trans ha_273
  have ha_296 := (had43 44 (by omega)).trans ha_274
  have ha_297 := (had43 47 (by omega)).trans ha_275
  have ha_298 := (had43 50 (by omega)).trans ha_276
  have ha_299 := (had43 52 (by omega)).trans ha_277
  have ha_300 := (had43 53 (by omega)).trans hb13
  obtain ⟨b14, hb14⟩ : ∃ a, ad43 54 = a := ⟨_, rfl⟩
  rw [hb14]
  have h_301 := zeq hF43
  refine lv_dup hx hb dX6_init_104 rfl ?_
  refine zgovC hZ hA (zrunI (rest := [.ref b14, .ref a0]) (k := 54) hb14 hC hZ (c_X5_init l D cy 55 ad43 F43 H.size 54 (by omega) h_301) iX6_46 (zRjC_of rfl) hl.1 (Nat.le_of_ble_eq_true rfl) dX6_init_105 ⟨(Nat.le_of_ble_eq_true rfl), (Nat.le_of_ble_eq_true rfl)⟩) (fun F44 hF44 H locs hZ => ?_)
  have hZ : zH D (zA 1 ad sz) s.heap 55 ad43 F44 H locs := hZ
  have h_302 := zne hF44 (by omega) h_284
  have h_303 := zne hF44 (by omega) h_285
  have h_304 : F44 54 = oTale (0, 0) := zeq hF44
  refine zputFA (E := .inr (6, [.ref b0, .ref b1, .int 0, .ref b2, .ref b11, .ref b12, .ref b13, .ref b14, .null])) ha_286 hC hZ hin pX6_51 (by omega) h_302 rfl rfl rfl (Nat.le_of_ble_eq_true rfl) dX6_init_108 (fun F45 hF45 H locs hZ => ?_)
  have h_305 := zne hF45 (by omega) h_303
  have h_306 := zeq hF45
  refine lv_aload_n hx hb dX6_init_111 rfl (lv_at hl 1 rfl) ?_
  refine znew hC hZ hA nX6_54 (Nat.le_of_ble_eq_true rfl) (Nat.le_of_ble_eq_true rfl) dX6_init_112 (fun ad46 F46 had46 hF46 H hZ => ?_)
  have hZ : zH D (zA 1 ad sz) s.heap 56 ad46 F46 H locs := hZ
  refine W.widen (k := 55) (n := 1089) (Nat.le_of_ble_eq_true rfl) (Nat.le_of_ble_eq_true rfl) ?_
  have h_307 := zne hF46 (by omega) h_306
  have h_308 := zne hF46 (by omega) h_305
  have ha_309 := (had46 0 (by omega)).trans ha_286
  have ha_310 := (had46 1 (by omega)).trans ha_287
  have ha_311 := (had46 13 (by omega)).trans ha_288
  have ha_312 := (had46 25 (by omega)).trans ha_289
  have ha_313 := (had46 26 (by omega)).trans ha_290
  have ha_314 := (had46 29 (by omega)).trans ha_291
  have ha_315 := (had46 32 (by omega)).trans ha_292
  have ha_316 := (had46 35 (by omega)).trans ha_293
  have ha_317 := (had46 38 (by omega)).trans ha_294
  have ha_318 := (had46 41 (by omega)).trans ha_295
  have ha_319 := (had46 44 (by omega)).trans ha_296
  have ha_320 := (had46 47 (by omega)).trans ha_297
  have ha_321 := (had46 50 (by omega)).trans ha_298
  have ha_322 := (had46 52 (by omega)).trans ha_299
  have ha_323 := (had46 53 (by omega)).trans ha_300
  have ha_324 := (had46 54 (by omega)).trans hb14
  obtain ⟨b15, hb15⟩ : ∃ a, ad46 55 = a := ⟨_, rfl⟩
  rw [hb15]
  have h_325 := zeq hF46
  refine lv_dup hx hb dX6_init_115 rfl ?_
  refine zgovC hZ hA (zrunI (rest := [.ref b15, .ref a0]) (k := 55) hb15 hC hZ (c_X0_init l D cy 56 ad46 F46 H.size 55 (by omega) h_325) iX6_56 (zRjC_of rfl) hl.1 (Nat.le_of_ble_eq_true rfl) dX6_init_116 ⟨(Nat.le_of_ble_eq_true rfl), (Nat.le_of_ble_eq_true rfl)⟩) (fun F47 hF47 H locs hZ => ?_)
  have hZ : zH D (zA 1 ad sz) s.heap 56 ad46 F47 H locs := hZ
  have h_326 := zne hF47 (by omega) h_307
  have h_327 := zne hF47 (by omega) h_308
  have h_328 : F47 55 = oCourse (0, 0, 0, 0, 0) := zeq hF47
  refine zputFA (E := .inr (6, [.ref b0, .ref b1, .int 0, .ref b2, .ref b11, .ref b12, .ref b13, .ref b14, .ref b15])) ha_309 hC hZ hin pX6_57 (by omega) h_326 rfl rfl rfl (Nat.le_of_ble_eq_true rfl) dX6_init_119 (fun F48 hF48 H locs hZ => ?_)
  have h_329 := zne hF48 (by omega) h_327
  have h_330 := zeq hF48
  have hf9 : ∀ i, i < 8 → (fun i => some (ad46 (26 + 3 * i))) i = (va_up (va_up (va_up (va_up (va_up (va_up (va_up (va_up (fun _ => none) 0 (some b3)) 1 (some b4)) 2 (some b5)) 3 (some b6)) 4 (some b7)) 5 (some b8)) 6 (some b9)) 7 (some b10)) i := by
    intro i hi
    rcases (show i = 0 ∨ i = 1 ∨ i = 2 ∨ i = 3 ∨ i = 4 ∨ i = 5 ∨ i = 6 ∨ i = 7 by omega) with rfl | rfl | rfl | rfl | rfl | rfl | rfl | rfl
    · show some (ad46 (26 + 3 * 0)) = _; rw [show ad46 (26 + 3 * 0) = b3 from ha_313]; simp [va_up]
    · show some (ad46 (26 + 3 * 1)) = _; rw [show ad46 (26 + 3 * 1) = b4 from ha_314]; simp [va_up]
    · show some (ad46 (26 + 3 * 2)) = _; rw [show ad46 (26 + 3 * 2) = b5 from ha_315]; simp [va_up]
    · show some (ad46 (26 + 3 * 3)) = _; rw [show ad46 (26 + 3 * 3) = b6 from ha_316]; simp [va_up]
    · show some (ad46 (26 + 3 * 4)) = _; rw [show ad46 (26 + 3 * 4) = b7 from ha_317]; simp [va_up]
    · show some (ad46 (26 + 3 * 5)) = _; rw [show ad46 (26 + 3 * 5) = b8 from ha_318]; simp [va_up]
    · show some (ad46 (26 + 3 * 6)) = _; rw [show ad46 (26 + 3 * 6) = b9 from ha_319]; simp [va_up]
    · show some (ad46 (26 + 3 * 7)) = _; rw [show ad46 (26 + 3 * 7) = b10 from ha_320]; simp [va_up]
  have hZ := zrefs hZ (k := 25) (by omega) h_329 hf9
  obtain ⟨F49, hF49⟩ : ∃ z, z = va_up F48 25 (oRefs cy 3 8 (fun i => some (ad46 (26 + 3 * i)))) := ⟨_, rfl⟩
  rw [← hF49] at hZ
  have h_331 := zne hF49 (by omega) h_330
  have harr := zeq hF49
  have sn_49 : ∀ j, j < 56 → ¬ j = 0 → ¬ j = 25 → F49 j = F49 j ∧ ad46 j = ad46 j := fun j h g0 g1 => ⟨rfl, rfl⟩
  have sn_48 : ∀ j, j < 56 → ¬ j = 0 → ¬ j = 25 → F49 j = F48 j ∧ ad46 j = ad46 j := fun j h g0 g1 => ⟨(sn_49 j (by omega) g0 g1).1.trans (znu hF49 (by omega)), (sn_49 j (by omega) g0 g1).2.trans rfl⟩
  have sn_47 : ∀ j, j < 56 → ¬ j = 0 → ¬ j = 25 → F49 j = F47 j ∧ ad46 j = ad46 j := fun j h g0 g1 => ⟨(sn_48 j (by omega) g0 g1).1.trans (znu hF48 (by omega)), (sn_48 j (by omega) g0 g1).2.trans rfl⟩
  have sn_46 : ∀ j, j < 55 → ¬ j = 0 → ¬ j = 25 → F49 j = F46 j ∧ ad46 j = ad46 j := fun j h g0 g1 => ⟨(sn_47 j (by omega) g0 g1).1.trans (znu hF47 (by omega)), (sn_47 j (by omega) g0 g1).2.trans rfl⟩
  have sn_45 : ∀ j, j < 55 → ¬ j = 0 → ¬ j = 25 → F49 j = F45 j ∧ ad46 j = ad43 j := fun j h g0 g1 => ⟨(sn_46 j (by omega) g0 g1).1.trans (znu hF46 (by omega)), (sn_46 j (by omega) g0 g1).2.trans (had46 j (by omega))⟩
  have sn_44 : ∀ j, j < 55 → ¬ j = 0 → ¬ j = 25 → F49 j = F44 j ∧ ad46 j = ad43 j := fun j h g0 g1 => ⟨(sn_45 j (by omega) g0 g1).1.trans (znu hF45 (by omega)), (sn_45 j (by omega) g0 g1).2.trans rfl⟩
  have sn_43 : ∀ j, j < 54 → ¬ j = 0 → ¬ j = 25 → F49 j = F43 j ∧ ad46 j = ad43 j := fun j h g0 g1 => ⟨(sn_44 j (by omega) g0 g1).1.trans (znu hF44 (by omega)), (sn_44 j (by omega) g0 g1).2.trans rfl⟩
  have sn_42 : ∀ j, j < 54 → ¬ j = 0 → ¬ j = 25 → F49 j = F42 j ∧ ad46 j = ad40 j := fun j h g0 g1 => ⟨(sn_43 j (by omega) g0 g1).1.trans (znu hF43 (by omega)), (sn_43 j (by omega) g0 g1).2.trans (had43 j (by omega))⟩
  have sn_41 : ∀ j, j < 54 → ¬ j = 0 → ¬ j = 25 → F49 j = F41 j ∧ ad46 j = ad40 j := fun j h g0 g1 => ⟨(sn_42 j (by omega) g0 g1).1.trans (znu hF42 (by omega)), (sn_42 j (by omega) g0 g1).2.trans rfl⟩
  have sn_40 : ∀ j, j < 53 → ¬ j = 0 → ¬ j = 25 → F49 j = F40 j ∧ ad46 j = ad40 j := fun j h g0 g1 => ⟨(sn_41 j (by omega) g0 g1).1.trans (znu hF41 (by omega)), (sn_41 j (by omega) g0 g1).2.trans rfl⟩
  have sn_39 : ∀ j, j < 53 → ¬ j = 0 → ¬ j = 25 → F49 j = F39 j ∧ ad46 j = ad37 j := fun j h g0 g1 => ⟨(sn_40 j (by omega) g0 g1).1.trans (znu hF40 (by omega)), (sn_40 j (by omega) g0 g1).2.trans (had40 j (by omega))⟩
  have sn_38 : ∀ j, j < 53 → ¬ j = 0 → ¬ j = 25 → F49 j = F38 j ∧ ad46 j = ad37 j := fun j h g0 g1 => ⟨(sn_39 j (by omega) g0 g1).1.trans (znu hF39 (by omega)), (sn_39 j (by omega) g0 g1).2.trans rfl⟩
  have sn_37 : ∀ j, j < 52 → ¬ j = 0 → ¬ j = 25 → F49 j = F37 j ∧ ad46 j = ad37 j := fun j h g0 g1 => ⟨(sn_38 j (by omega) g0 g1).1.trans (znu hF38 (by omega)), (sn_38 j (by omega) g0 g1).2.trans rfl⟩
  have sn_36 : ∀ j, j < 52 → ¬ j = 0 → ¬ j = 25 → F49 j = F36 j ∧ ad46 j = ad35 j := fun j h g0 g1 => ⟨(sn_37 j (by omega) g0 g1).1.trans (znu hF37 (by omega)), (sn_37 j (by omega) g0 g1).2.trans (had37 j (by omega))⟩
  have sn_35 : ∀ j, j < 52 → ¬ j = 0 → ¬ j = 25 → F49 j = F35 j ∧ ad46 j = ad35 j := fun j h g0 g1 => ⟨(sn_36 j (by omega) g0 g1).1.trans (znu hF36 (by omega)), (sn_36 j (by omega) g0 g1).2.trans rfl⟩
  have sn_34 : ∀ j, j < 50 → ¬ j = 0 → ¬ j = 25 → F49 j = F34 j ∧ ad46 j = ad34 j := fun j h g0 g1 => ⟨(sn_35 j (by omega) g0 g1).1.trans (hfr35 j (by omega)), (sn_35 j (by omega) g0 g1).2.trans (had35 j (by omega))⟩
  have sn_33 : ∀ j, j < 50 → ¬ j = 0 → ¬ j = 25 → F49 j = F33 j ∧ ad46 j = ad32 j := fun j h g0 g1 => ⟨(sn_34 j (by omega) g0 g1).1.trans (znu hF34 (by omega)), (sn_34 j (by omega) g0 g1).2.trans (had34 j (by omega))⟩
  have sn_32 : ∀ j, j < 50 → ¬ j = 0 → ¬ j = 25 → F49 j = F32 j ∧ ad46 j = ad32 j := fun j h g0 g1 => ⟨(sn_33 j (by omega) g0 g1).1.trans (znu hF33 (by omega)), (sn_33 j (by omega) g0 g1).2.trans rfl⟩
  have sn_31 : ∀ j, j < 47 → ¬ j = 0 → ¬ j = 25 → F49 j = F31 j ∧ ad46 j = ad31 j := fun j h g0 g1 => ⟨(sn_32 j (by omega) g0 g1).1.trans (hfr32 j (by omega)), (sn_32 j (by omega) g0 g1).2.trans (had32 j (by omega))⟩
  have sn_30 : ∀ j, j < 47 → ¬ j = 0 → ¬ j = 25 → F49 j = F30 j ∧ ad46 j = ad29 j := fun j h g0 g1 => ⟨(sn_31 j (by omega) g0 g1).1.trans (znu hF31 (by omega)), (sn_31 j (by omega) g0 g1).2.trans (had31 j (by omega))⟩
  have sn_29 : ∀ j, j < 47 → ¬ j = 0 → ¬ j = 25 → F49 j = F29 j ∧ ad46 j = ad29 j := fun j h g0 g1 => ⟨(sn_30 j (by omega) g0 g1).1.trans (znu hF30 (by omega)), (sn_30 j (by omega) g0 g1).2.trans rfl⟩
  have sn_28 : ∀ j, j < 44 → ¬ j = 0 → ¬ j = 25 → F49 j = F28 j ∧ ad46 j = ad28 j := fun j h g0 g1 => ⟨(sn_29 j (by omega) g0 g1).1.trans (hfr29 j (by omega)), (sn_29 j (by omega) g0 g1).2.trans (had29 j (by omega))⟩
  have sn_27 : ∀ j, j < 44 → ¬ j = 0 → ¬ j = 25 → F49 j = F27 j ∧ ad46 j = ad26 j := fun j h g0 g1 => ⟨(sn_28 j (by omega) g0 g1).1.trans (znu hF28 (by omega)), (sn_28 j (by omega) g0 g1).2.trans (had28 j (by omega))⟩
  have sn_26 : ∀ j, j < 44 → ¬ j = 0 → ¬ j = 25 → F49 j = F26 j ∧ ad46 j = ad26 j := fun j h g0 g1 => ⟨(sn_27 j (by omega) g0 g1).1.trans (znu hF27 (by omega)), (sn_27 j (by omega) g0 g1).2.trans rfl⟩
  have sn_25 : ∀ j, j < 41 → ¬ j = 0 → ¬ j = 25 → F49 j = F25 j ∧ ad46 j = ad25 j := fun j h g0 g1 => ⟨(sn_26 j (by omega) g0 g1).1.trans (hfr26 j (by omega)), (sn_26 j (by omega) g0 g1).2.trans (had26 j (by omega))⟩
  have sn_24 : ∀ j, j < 41 → ¬ j = 0 → ¬ j = 25 → F49 j = F24 j ∧ ad46 j = ad23 j := fun j h g0 g1 => ⟨(sn_25 j (by omega) g0 g1).1.trans (znu hF25 (by omega)), (sn_25 j (by omega) g0 g1).2.trans (had25 j (by omega))⟩
  have sn_23 : ∀ j, j < 41 → ¬ j = 0 → ¬ j = 25 → F49 j = F23 j ∧ ad46 j = ad23 j := fun j h g0 g1 => ⟨(sn_24 j (by omega) g0 g1).1.trans (znu hF24 (by omega)), (sn_24 j (by omega) g0 g1).2.trans rfl⟩
  have sn_22 : ∀ j, j < 38 → ¬ j = 0 → ¬ j = 25 → F49 j = F22 j ∧ ad46 j = ad22 j := fun j h g0 g1 => ⟨(sn_23 j (by omega) g0 g1).1.trans (hfr23 j (by omega)), (sn_23 j (by omega) g0 g1).2.trans (had23 j (by omega))⟩
  have sn_21 : ∀ j, j < 38 → ¬ j = 0 → ¬ j = 25 → F49 j = F21 j ∧ ad46 j = ad20 j := fun j h g0 g1 => ⟨(sn_22 j (by omega) g0 g1).1.trans (znu hF22 (by omega)), (sn_22 j (by omega) g0 g1).2.trans (had22 j (by omega))⟩
  have sn_20 : ∀ j, j < 38 → ¬ j = 0 → ¬ j = 25 → F49 j = F20 j ∧ ad46 j = ad20 j := fun j h g0 g1 => ⟨(sn_21 j (by omega) g0 g1).1.trans (znu hF21 (by omega)), (sn_21 j (by omega) g0 g1).2.trans rfl⟩
  have sn_19 : ∀ j, j < 35 → ¬ j = 0 → ¬ j = 25 → F49 j = F19 j ∧ ad46 j = ad19 j := fun j h g0 g1 => ⟨(sn_20 j (by omega) g0 g1).1.trans (hfr20 j (by omega)), (sn_20 j (by omega) g0 g1).2.trans (had20 j (by omega))⟩
  have sn_18 : ∀ j, j < 35 → ¬ j = 0 → ¬ j = 25 → F49 j = F18 j ∧ ad46 j = ad17 j := fun j h g0 g1 => ⟨(sn_19 j (by omega) g0 g1).1.trans (znu hF19 (by omega)), (sn_19 j (by omega) g0 g1).2.trans (had19 j (by omega))⟩
  have sn_17 : ∀ j, j < 35 → ¬ j = 0 → ¬ j = 25 → F49 j = F17 j ∧ ad46 j = ad17 j := fun j h g0 g1 => ⟨(sn_18 j (by omega) g0 g1).1.trans (znu hF18 (by omega)), (sn_18 j (by omega) g0 g1).2.trans rfl⟩
  have sn_16 : ∀ j, j < 32 → ¬ j = 0 → ¬ j = 25 → F49 j = F16 j ∧ ad46 j = ad16 j := fun j h g0 g1 => ⟨(sn_17 j (by omega) g0 g1).1.trans (hfr17 j (by omega)), (sn_17 j (by omega) g0 g1).2.trans (had17 j (by omega))⟩
  have sn_15 : ∀ j, j < 32 → ¬ j = 0 → ¬ j = 25 → F49 j = F15 j ∧ ad46 j = ad14 j := fun j h g0 g1 => ⟨(sn_16 j (by omega) g0 g1).1.trans (znu hF16 (by omega)), (sn_16 j (by omega) g0 g1).2.trans (had16 j (by omega))⟩
  have sn_14 : ∀ j, j < 32 → ¬ j = 0 → ¬ j = 25 → F49 j = F14 j ∧ ad46 j = ad14 j := fun j h g0 g1 => ⟨(sn_15 j (by omega) g0 g1).1.trans (znu hF15 (by omega)), (sn_15 j (by omega) g0 g1).2.trans rfl⟩
  have sn_13 : ∀ j, j < 29 → ¬ j = 0 → ¬ j = 25 → F49 j = F13 j ∧ ad46 j = ad13 j := fun j h g0 g1 => ⟨(sn_14 j (by omega) g0 g1).1.trans (hfr14 j (by omega)), (sn_14 j (by omega) g0 g1).2.trans (had14 j (by omega))⟩
  have sn_12 : ∀ j, j < 29 → ¬ j = 0 → ¬ j = 25 → F49 j = F12 j ∧ ad46 j = ad11 j := fun j h g0 g1 => ⟨(sn_13 j (by omega) g0 g1).1.trans (znu hF13 (by omega)), (sn_13 j (by omega) g0 g1).2.trans (had13 j (by omega))⟩
  have sn_11 : ∀ j, j < 29 → ¬ j = 0 → ¬ j = 25 → F49 j = F11 j ∧ ad46 j = ad11 j := fun j h g0 g1 => ⟨(sn_12 j (by omega) g0 g1).1.trans (znu hF12 (by omega)), (sn_12 j (by omega) g0 g1).2.trans rfl⟩
  have sn_10 : ∀ j, j < 26 → ¬ j = 0 → ¬ j = 25 → F49 j = F10 j ∧ ad46 j = ad10 j := fun j h g0 g1 => ⟨(sn_11 j (by omega) g0 g1).1.trans (hfr11 j (by omega)), (sn_11 j (by omega) g0 g1).2.trans (had11 j (by omega))⟩
  have sn_9 : ∀ j, j < 26 → ¬ j = 0 → ¬ j = 25 → F49 j = F9 j ∧ ad46 j = ad8 j := fun j h g0 g1 => ⟨(sn_10 j (by omega) g0 g1).1.trans (znu hF10 (by omega)), (sn_10 j (by omega) g0 g1).2.trans (had10 j (by omega))⟩
  have sn_8 : ∀ j, j < 26 → ¬ j = 0 → ¬ j = 25 → F49 j = F8 j ∧ ad46 j = ad8 j := fun j h g0 g1 => ⟨(sn_9 j (by omega) g0 g1).1.trans (znu hF9 (by omega)), (sn_9 j (by omega) g0 g1).2.trans rfl⟩
  have sn_7 : ∀ j, j < 25 → ¬ j = 0 → ¬ j = 25 → F49 j = F7 j ∧ ad46 j = ad5 j := fun j h g0 g1 => ⟨(sn_8 j (by omega) g0 g1).1.trans (znu hF8 (by omega)), (sn_8 j (by omega) g0 g1).2.trans (had8 j (by omega))⟩
  have sn_6 : ∀ j, j < 25 → ¬ j = 0 → ¬ j = 25 → F49 j = F6 j ∧ ad46 j = ad5 j := fun j h g0 g1 => ⟨(sn_7 j (by omega) g0 g1).1.trans (znu hF7 (by omega)), (sn_7 j (by omega) g0 g1).2.trans rfl⟩
  have sn_5 : ∀ j, j < 25 → ¬ j = 0 → ¬ j = 25 → F49 j = F5 j ∧ ad46 j = ad5 j := fun j h g0 g1 => ⟨(sn_6 j (by omega) g0 g1).1.trans (znu hF6 (by omega)), (sn_6 j (by omega) g0 g1).2.trans rfl⟩
  have sn_4 : ∀ j, j < 13 → ¬ j = 0 → ¬ j = 25 → F49 j = F4 j ∧ ad46 j = ad4 j := fun j h g0 g1 => ⟨(sn_5 j (by omega) g0 g1).1.trans (hfr5 j (by omega)), (sn_5 j (by omega) g0 g1).2.trans (had5 j (by omega))⟩
  have sn_3 : ∀ j, j < 13 → ¬ j = 0 → ¬ j = 25 → F49 j = F3 j ∧ ad46 j = ad2 j := fun j h g0 g1 => ⟨(sn_4 j (by omega) g0 g1).1.trans (znu hF4 (by omega)), (sn_4 j (by omega) g0 g1).2.trans (had4 j (by omega))⟩
  have sn_2 : ∀ j, j < 13 → ¬ j = 0 → ¬ j = 25 → F49 j = F2 j ∧ ad46 j = ad2 j := fun j h g0 g1 => ⟨(sn_3 j (by omega) g0 g1).1.trans (znu hF3 (by omega)), (sn_3 j (by omega) g0 g1).2.trans rfl⟩
  have sn_1 : ∀ j, j < 0 → ¬ j = 0 → ¬ j = 25 → F49 j = F1 j ∧ ad46 j = ad1 j := fun j h g0 g1 => ⟨(sn_2 j (by omega) g0 g1).1.trans (hfr2 j (by omega)), (sn_2 j (by omega) g0 g1).2.trans (had2 j (by omega))⟩
  have sn_0 : ∀ j, j < 0 → ¬ j = 0 → ¬ j = 25 → F49 j = F j ∧ ad46 j = ad j := fun j h g0 g1 => ⟨(sn_1 j (by omega) g0 g1).1.trans (znu hF1 (by omega)), (sn_1 j (by omega) g0 g1).2.trans (had1 j (by omega))⟩
  have hq1 : ∀ j, j < 1 → ad46 j = ad j := fun j hj => by
    by_cases e : j = 0
    · rw [e]; exact ha_309.trans ha0.symm
    · exact (sn_0 j (by omega) e (by omega)).2
  have hq2 : ∀ j, j < 0 → F49 j = F j := fun j hj => (sn_0 j (by omega) (by omega) (by omega)).1
  obtain ⟨G1, hZ1, hG1, hS1⟩ := RS_rb hZ (k := 1) (by omega) hR2 (fun j _ _ => (sn_2 j (by omega) (by omega) (by omega)).2) (fun j _ _ => (sn_2 j (by omega) (by omega) (by omega)).1)
  obtain ⟨G2, hZ2, hG2, hS2⟩ := RS_rb hZ1 (k := 13) (by omega) hR5 (fun j _ _ => (sn_5 j (by omega) (by omega) (by omega)).2) (fun j _ _ => (hG1 j (by omega)).trans (sn_5 j (by omega) (by omega) (by omega)).1)
  have hZ := hZ2
  have hq2 : ∀ j, j < 0 → G2 j = F j := fun j hj => absurd hj (Nat.not_lt_zero _)
  have hq3 : RX ad46 cy G2 0 sc0 sc0 (fun _ => sf0) ((fun _ => 0), 0, 0, 0) bst0 (0, 0) sCC := by
    refine ⟨?_, RS_fr hS1 (fun q _ _ => hG2 q (by omega)), hS2, ((hG2 25 (by omega)).trans (hG1 25 (by omega))).trans harr, fun i hi => ?_, ?_, ?_, ?_, ?_, ?_⟩
    · rw [hG2 0 (by omega), hG1 0 (by omega), h_331]; unfold oMain
      rw [show ad46 1 = b0 from ha_310, show ad46 13 = b1 from ha_311, show ad46 25 = b2 from ha_312, show ad46 50 = b11 from ha_321, show ad46 52 = b12 from ha_322, show ad46 53 = b13 from ha_323, show ad46 54 = b14 from ha_324, show ad46 55 = b15 from hb15]
    · rcases (show i = 0 ∨ i = 1 ∨ i = 2 ∨ i = 3 ∨ i = 4 ∨ i = 5 ∨ i = 6 ∨ i = 7 by omega) with rfl | rfl | rfl | rfl | rfl | rfl | rfl | rfl
      · exact RSh_mv hR11 (fun j _ _ => (sn_11 j (by omega) (by omega) (by omega)).2) (fun j _ _ => ((hG2 j (by omega)).trans (hG1 j (by omega))).trans (sn_11 j (by omega) (by omega) (by omega)).1)
      · exact RSh_mv hR14 (fun j _ _ => (sn_14 j (by omega) (by omega) (by omega)).2) (fun j _ _ => ((hG2 j (by omega)).trans (hG1 j (by omega))).trans (sn_14 j (by omega) (by omega) (by omega)).1)
      · exact RSh_mv hR17 (fun j _ _ => (sn_17 j (by omega) (by omega) (by omega)).2) (fun j _ _ => ((hG2 j (by omega)).trans (hG1 j (by omega))).trans (sn_17 j (by omega) (by omega) (by omega)).1)
      · exact RSh_mv hR20 (fun j _ _ => (sn_20 j (by omega) (by omega) (by omega)).2) (fun j _ _ => ((hG2 j (by omega)).trans (hG1 j (by omega))).trans (sn_20 j (by omega) (by omega) (by omega)).1)
      · exact RSh_mv hR23 (fun j _ _ => (sn_23 j (by omega) (by omega) (by omega)).2) (fun j _ _ => ((hG2 j (by omega)).trans (hG1 j (by omega))).trans (sn_23 j (by omega) (by omega) (by omega)).1)
      · exact RSh_mv hR26 (fun j _ _ => (sn_26 j (by omega) (by omega) (by omega)).2) (fun j _ _ => ((hG2 j (by omega)).trans (hG1 j (by omega))).trans (sn_26 j (by omega) (by omega) (by omega)).1)
      · exact RSh_mv hR29 (fun j _ _ => (sn_29 j (by omega) (by omega) (by omega)).2) (fun j _ _ => ((hG2 j (by omega)).trans (hG1 j (by omega))).trans (sn_29 j (by omega) (by omega) (by omega)).1)
      · exact RSh_mv hR32 (fun j _ _ => (sn_32 j (by omega) (by omega) (by omega)).2) (fun j _ _ => ((hG2 j (by omega)).trans (hG1 j (by omega))).trans (sn_32 j (by omega) (by omega) (by omega)).1)
    · exact RRd_mv hR35 (fun j _ _ => (sn_35 j (by omega) (by omega) (by omega)).2) (fun j _ _ => ((hG2 j (by omega)).trans (hG1 j (by omega))).trans (sn_35 j (by omega) (by omega) (by omega)).1)
    · exact ((hG2 52 (by omega)).trans (hG1 52 (by omega))).trans ((sn_38 52 (by omega) (by omega) (by omega)).1.trans h_259)
    · exact ((hG2 53 (by omega)).trans (hG1 53 (by omega))).trans ((sn_41 53 (by omega) (by omega) (by omega)).1.trans h_281)
    · exact ((hG2 54 (by omega)).trans (hG1 54 (by omega))).trans ((sn_44 54 (by omega) (by omega) (by omega)).1.trans h_304)
    · exact ((hG2 55 (by omega)).trans (hG1 55 (by omega))).trans ((sn_47 55 (by omega) (by omega) (by omega)).1.trans h_328)
  exact zvretN hC hZ hr hlocks (φ := (fun u : (Nat → Nat) × (Nat → va_E) => (∀ j, j < 1 → u.1 j = ad j) ∧ (∀ j, j < 0 → u.2 j = F j) ∧ RX u.1 cy u.2 0 sc0 sc0 (fun _ => sf0) ((fun _ => 0), 0, 0, 0) bst0 (0, 0) sCC)) ⟨hq1, hq2, hq3⟩ dX6_init_122

theorem mX7_init : zMd yX7_init cX7_init 1 none 0 := ⟨by decide +kernel, gt_of 756 (by decide +kernel) rfl, gt_of 52 (by decide +kernel) rfl, by decide⟩
theorem dX7_init_0 : decode cX7_init 0 = .ok (.aload_n 0, 1) := by decide +kernel
theorem dX7_init_1 : decode cX7_init 1 = .ok (.invokespecial 1, 3) := by decide +kernel
theorem oX7_1 : zObj RX7 1 := ⟨gt_of 757 (by decide +kernel) rfl, gt_of 67 (by decide +kernel) rfl, gt_of 68 (by decide +kernel) rfl⟩
theorem dX7_init_4 : decode cX7_init 4 = .ok (.aload_n 0, 1) := by decide +kernel
theorem dX7_init_5 : decode cX7_init 5 = .ok (.bipush 50, 2) := by decide +kernel
theorem dX7_init_7 : decode cX7_init 7 = .ok (.putfield 7, 3) := by decide +kernel
theorem dX7_init_10 : decode cX7_init 10 = .ok (.aload_n 0, 1) := by decide +kernel
theorem dX7_init_11 : decode cX7_init 11 = .ok (.bipush 20, 2) := by decide +kernel
theorem dX7_init_13 : decode cX7_init 13 = .ok (.putfield 13, 3) := by decide +kernel
theorem dX7_init_16 : decode cX7_init 16 = .ok (.aload_n 0, 1) := by decide +kernel
theorem dX7_init_17 : decode cX7_init 17 = .ok (.sipush 1000, 3) := by decide +kernel
theorem dX7_init_20 : decode cX7_init 20 = .ok (.putfield 16, 3) := by decide +kernel
theorem dX7_init_23 : decode cX7_init 23 = .ok (.aload_n 0, 1) := by decide +kernel
theorem dX7_init_24 : decode cX7_init 24 = .ok (.bipush 100, 2) := by decide +kernel
theorem dX7_init_26 : decode cX7_init 26 = .ok (.putfield 19, 3) := by decide +kernel
theorem dX7_init_29 : decode cX7_init 29 = .ok (.aload_n 0, 1) := by decide +kernel
theorem dX7_init_30 : decode cX7_init 30 = .ok (.bipush 32, 2) := by decide +kernel
theorem dX7_init_32 : decode cX7_init 32 = .ok (.newarray .int, 2) := by decide +kernel
theorem pX7_22 : zFldP RX7 22 7 6 true (.array .int) := ⟨RX7, TX7, 39, tyX7, rfl, inX7, by decide, rfl, Or.inl (gt_of 764 (by decide +kernel) rfl), tyX7_ok, nmX7, rfl, by decide +kernel, fun _ => rfl⟩
theorem dX7_init_34 : decode cX7_init 34 = .ok (.putfield 22, 3) := by decide +kernel
theorem dX7_init_37 : decode cX7_init 37 = .ok (.aload_n 0, 1) := by decide +kernel
theorem dX7_init_38 : decode cX7_init 38 = .ok (.bipush 50, 2) := by decide +kernel
theorem dX7_init_40 : decode cX7_init 40 = .ok (.newarray .int, 2) := by decide +kernel
theorem pX7_26 : zFldP RX7 26 7 18 true (.array .int) := ⟨RX7, TX7, 39, tyX7, rfl, inX7, by decide, rfl, Or.inl (gt_of 776 (by decide +kernel) rfl), tyX7_ok, nmX7, rfl, by decide +kernel, fun _ => rfl⟩
theorem dX7_init_42 : decode cX7_init 42 = .ok (.putfield 26, 3) := by decide +kernel
theorem dX7_init_45 : decode cX7_init 45 = .ok (.aload_n 0, 1) := by decide +kernel
theorem dX7_init_46 : decode cX7_init 46 = .ok (.sipush 200, 3) := by decide +kernel
theorem dX7_init_49 : decode cX7_init 49 = .ok (.newarray .int, 2) := by decide +kernel
theorem pX7_29 : zFldP RX7 29 7 19 true (.array .int) := ⟨RX7, TX7, 39, tyX7, rfl, inX7, by decide, rfl, Or.inl (gt_of 777 (by decide +kernel) rfl), tyX7_ok, nmX7, rfl, by decide +kernel, fun _ => rfl⟩
theorem dX7_init_51 : decode cX7_init 51 = .ok (.putfield 29, 3) := by decide +kernel
theorem dX7_init_54 : decode cX7_init 54 = .ok (.aload_n 0, 1) := by decide +kernel
theorem dX7_init_55 : decode cX7_init 55 = .ok (.bipush 43, 2) := by decide +kernel
theorem dX7_init_57 : decode cX7_init 57 = .ok (.newarray .int, 2) := by decide +kernel
theorem pX7_32 : zFldP RX7 32 7 29 true (.array .int) := ⟨RX7, TX7, 39, tyX7, rfl, inX7, by decide, rfl, Or.inl (gt_of 787 (by decide +kernel) rfl), tyX7_ok, nmX7, rfl, by decide +kernel, fun _ => rfl⟩
theorem dX7_init_59 : decode cX7_init 59 = .ok (.putfield 32, 3) := by decide +kernel
theorem dX7_init_62 : decode cX7_init 62 = .ok (.aload_n 0, 1) := by decide +kernel
theorem dX7_init_63 : decode cX7_init 63 = .ok (.bipush 8, 2) := by decide +kernel
theorem dX7_init_65 : decode cX7_init 65 = .ok (.newarray .int, 2) := by decide +kernel
theorem pX7_35 : zFldP RX7 35 7 32 true (.array .int) := ⟨RX7, TX7, 39, tyX7, rfl, inX7, by decide, rfl, Or.inl (gt_of 790 (by decide +kernel) rfl), tyX7_ok, nmX7, rfl, by decide +kernel, fun _ => rfl⟩
theorem dX7_init_67 : decode cX7_init 67 = .ok (.putfield 35, 3) := by decide +kernel
theorem dX7_init_70 : decode cX7_init 70 = .ok (.aload_n 0, 1) := by decide +kernel
theorem dX7_init_71 : decode cX7_init 71 = .ok (.bipush 8, 2) := by decide +kernel
theorem dX7_init_73 : decode cX7_init 73 = .ok (.newarray .int, 2) := by decide +kernel
theorem pX7_38 : zFldP RX7 38 7 33 true (.array .int) := ⟨RX7, TX7, 39, tyX7, rfl, inX7, by decide, rfl, Or.inl (gt_of 791 (by decide +kernel) rfl), tyX7_ok, nmX7, rfl, by decide +kernel, fun _ => rfl⟩
theorem dX7_init_75 : decode cX7_init 75 = .ok (.putfield 38, 3) := by decide +kernel
theorem dX7_init_78 : decode cX7_init 78 = .ok (.aload_n 0, 1) := by decide +kernel
theorem dX7_init_79 : decode cX7_init 79 = .ok (.bipush 8, 2) := by decide +kernel
theorem dX7_init_81 : decode cX7_init 81 = .ok (.newarray .int, 2) := by decide +kernel
theorem pX7_41 : zFldP RX7 41 7 34 true (.array .int) := ⟨RX7, TX7, 39, tyX7, rfl, inX7, by decide, rfl, Or.inl (gt_of 792 (by decide +kernel) rfl), tyX7_ok, nmX7, rfl, by decide +kernel, fun _ => rfl⟩
theorem dX7_init_83 : decode cX7_init 83 = .ok (.putfield 41, 3) := by decide +kernel
theorem dX7_init_86 : decode cX7_init 86 = .ok (.aload_n 0, 1) := by decide +kernel
theorem dX7_init_87 : decode cX7_init 87 = .ok (.bipush 8, 2) := by decide +kernel
theorem dX7_init_89 : decode cX7_init 89 = .ok (.newarray .int, 2) := by decide +kernel
theorem pX7_44 : zFldP RX7 44 7 35 true (.array .int) := ⟨RX7, TX7, 39, tyX7, rfl, inX7, by decide, rfl, Or.inl (gt_of 793 (by decide +kernel) rfl), tyX7_ok, nmX7, rfl, by decide +kernel, fun _ => rfl⟩
theorem dX7_init_91 : decode cX7_init 91 = .ok (.putfield 44, 3) := by decide +kernel
theorem dX7_init_94 : decode cX7_init 94 = .ok (.aload_n 0, 1) := by decide +kernel
theorem dX7_init_95 : decode cX7_init 95 = .ok (.bipush 8, 2) := by decide +kernel
theorem dX7_init_97 : decode cX7_init 97 = .ok (.newarray .int, 2) := by decide +kernel
theorem pX7_47 : zFldP RX7 47 7 36 true (.array .int) := ⟨RX7, TX7, 39, tyX7, rfl, inX7, by decide, rfl, Or.inl (gt_of 794 (by decide +kernel) rfl), tyX7_ok, nmX7, rfl, by decide +kernel, fun _ => rfl⟩
theorem dX7_init_99 : decode cX7_init 99 = .ok (.putfield 47, 3) := by decide +kernel
theorem dX7_init_102 : decode cX7_init 102 = .ok (.aload_n 0, 1) := by decide +kernel
theorem dX7_init_103 : decode cX7_init 103 = .ok (.sipush 800, 3) := by decide +kernel
theorem dX7_init_106 : decode cX7_init 106 = .ok (.newarray .long, 2) := by decide +kernel
theorem pX7_50 : zFldP RX7 50 7 37 true (.array .long) := ⟨RX7, TX7, 39, tyX7, rfl, inX7, by decide, rfl, Or.inl (gt_of 795 (by decide +kernel) rfl), tyX7_ok, nmX7, rfl, by decide +kernel, fun _ => rfl⟩
theorem dX7_init_108 : decode cX7_init 108 = .ok (.putfield 50, 3) := by decide +kernel
theorem dX7_init_111 : decode cX7_init 111 = .ok (.aload_n 0, 1) := by decide +kernel
theorem dX7_init_112 : decode cX7_init 112 = .ok (.bipush 100, 2) := by decide +kernel
theorem dX7_init_114 : decode cX7_init 114 = .ok (.newarray .long, 2) := by decide +kernel
theorem pX7_54 : zFldP RX7 54 7 38 true (.array .long) := ⟨RX7, TX7, 39, tyX7, rfl, inX7, by decide, rfl, Or.inl (gt_of 796 (by decide +kernel) rfl), tyX7_ok, nmX7, rfl, by decide +kernel, fun _ => rfl⟩
theorem dX7_init_116 : decode cX7_init 116 = .ok (.putfield 54, 3) := by decide +kernel
theorem dX7_init_119 : decode cX7_init 119 = .ok (.aload_n 0, 1) := by decide +kernel
theorem dX7_init_120 : decode cX7_init 120 = .ok (.iconst 0, 1) := by decide +kernel
theorem dX7_init_121 : decode cX7_init 121 = .ok (.putfield 57, 3) := by decide +kernel
theorem dX7_init_124 : decode cX7_init 124 = .ok (.return_, 1) := by decide +kernel
set_option maxRecDepth 100000 in
set_option maxHeartbeats 4000000 in
theorem c_X7_init (l : Launch) (D : va_G) (cy : Nat → Nat) (ad : Nat → Nat) (F : Nat → va_E) (sz : Nat) (hF0 : F 56 = .inr (7, [.int 0, .int 0, .int 0, .int 0, .int 0, .int 0, .null, .int 0, .int 0, .int 0, .int 0, .int 0, .int 0, .int 0, .int 0, .int 0, .int 0, .int 0, .null, .null, .int 0, .int 0, .int 0, .int 0, .int 0, .int 0, .int 0, .int 0, .int 0, .null, .int 0, .int 0, .null, .null, .null, .null, .null, .null, .null])) : Met l yX7_init (zw yX7_init cX7_init 1 none) (rmC 1 11 1265) (zPc D cy 57 ad F sz [.ref (ad 56)]) (va_Qv (fun u : (Nat → Nat) × (Nat → va_E) => (∀ j, j < 57 → u.1 j = ad j) ∧ (∀ j, j < 56 → u.2 j = F j) ∧ RM u.1 cy u.2 0 0 sc0 sc0 (fun _ => sf0)) (zBN D 68 (zA 57 ad sz)) (zA 57 ad sz)) 11 1265 (zA 57 ad sz) := by
  refine zmet (by decide +kernel) (Nat.le_of_ble_eq_true rfl) (fun p e s m args below meth c ls hC hsz hZ hA hr hlocks hnm hl => ?_)
  have hC : zC p m c cX7_init 1 s args RX7 D cy := hC
  have hx := hC.1.1
  have hb := hC.1.2.1
  have hl : lv_has ls 1 [(0, .ref (ad 56))] := hl
  have hin : meth.name = "<init>" := hnm
  obtain ⟨locs, hlo⟩ : ∃ z : List Loc, z = [] := ⟨_, rfl⟩
  rw [← hlo] at hZ ⊢
  obtain ⟨a0, ha0⟩ : ∃ a, ad 56 = a := ⟨_, rfl⟩
  rw [ha0] at hl
  refine lv_aload_n hx hb dX7_init_0 rfl (lv_at hl 0 rfl) ?_
  refine zobj hC oX7_1 hl.1 (Nat.le_of_ble_eq_true rfl) (Nat.le_of_ble_eq_true rfl) dX7_init_1 ?_
  refine lv_aload_n hx hb dX7_init_4 rfl (lv_at hl 0 rfl) ?_
  refine lv_bipush (v := 50) hx hb dX7_init_5 (by decide) ?_
  refine zputA (E := .inr (7, [.int 50, .int 0, .int 0, .int 0, .int 0, .int 0, .null, .int 0, .int 0, .int 0, .int 0, .int 0, .int 0, .int 0, .int 0, .int 0, .int 0, .int 0, .null, .null, .int 0, .int 0, .int 0, .int 0, .int 0, .int 0, .int 0, .int 0, .int 0, .null, .int 0, .int 0, .null, .null, .null, .null, .null, .null, .null])) ha0 hC hZ pX7_7 (by omega) hF0 rfl rfl rfl (Nat.le_of_ble_eq_true rfl) dX7_init_7 (fun F1 hF1 H locs hZ => ?_)
  have h_1 := zeq hF1
  refine lv_aload_n hx hb dX7_init_10 rfl (lv_at hl 0 rfl) ?_
  refine lv_bipush (v := 20) hx hb dX7_init_11 (by decide) ?_
  refine zputA (E := .inr (7, [.int 50, .int 20, .int 0, .int 0, .int 0, .int 0, .null, .int 0, .int 0, .int 0, .int 0, .int 0, .int 0, .int 0, .int 0, .int 0, .int 0, .int 0, .null, .null, .int 0, .int 0, .int 0, .int 0, .int 0, .int 0, .int 0, .int 0, .int 0, .null, .int 0, .int 0, .null, .null, .null, .null, .null, .null, .null])) ha0 hC hZ pX7_13 (by omega) h_1 rfl rfl rfl (Nat.le_of_ble_eq_true rfl) dX7_init_13 (fun F2 hF2 H locs hZ => ?_)
  have h_2 := zeq hF2
  refine lv_aload_n hx hb dX7_init_16 rfl (lv_at hl 0 rfl) ?_
  refine lv_sipush (v := 1000) hx hb dX7_init_17 (by decide) ?_
  refine zputA (E := .inr (7, [.int 50, .int 20, .int 0, .int 1000, .int 0, .int 0, .null, .int 0, .int 0, .int 0, .int 0, .int 0, .int 0, .int 0, .int 0, .int 0, .int 0, .int 0, .null, .null, .int 0, .int 0, .int 0, .int 0, .int 0, .int 0, .int 0, .int 0, .int 0, .null, .int 0, .int 0, .null, .null, .null, .null, .null, .null, .null])) ha0 hC hZ pX7_16 (by omega) h_2 rfl rfl rfl (Nat.le_of_ble_eq_true rfl) dX7_init_20 (fun F3 hF3 H locs hZ => ?_)
  have h_3 := zeq hF3
  refine lv_aload_n hx hb dX7_init_23 rfl (lv_at hl 0 rfl) ?_
  refine lv_bipush (v := 100) hx hb dX7_init_24 (by decide) ?_
  refine zputA (E := .inr (7, [.int 50, .int 20, .int 0, .int 1000, .int 100, .int 0, .null, .int 0, .int 0, .int 0, .int 0, .int 0, .int 0, .int 0, .int 0, .int 0, .int 0, .int 0, .null, .null, .int 0, .int 0, .int 0, .int 0, .int 0, .int 0, .int 0, .int 0, .int 0, .null, .int 0, .int 0, .null, .null, .null, .null, .null, .null, .null])) ha0 hC hZ pX7_19 (by omega) h_3 rfl rfl rfl (Nat.le_of_ble_eq_true rfl) dX7_init_26 (fun F4 hF4 H locs hZ => ?_)
  have h_4 := zeq hF4
  refine lv_aload_n hx hb dX7_init_29 rfl (lv_at hl 0 rfl) ?_
  refine lv_bipush (v := 32) hx hb dX7_init_30 (by decide) ?_
  refine znewi (N := 32) hC hZ hA (gt_of 200 (by decide +kernel) rfl) (by decide) (by decide) (Nat.le_of_ble_eq_true rfl) (Nat.le_of_ble_eq_true rfl) (Nat.le_of_ble_eq_true rfl) dX7_init_32 (fun ad5 F5 had5 hF5 H hZ => ?_)
  have hZ : zH D (zA 57 ad sz) s.heap 58 ad5 F5 H locs := hZ
  refine W.widen (k := 1) (n := 32) (Nat.le_of_ble_eq_true rfl) (Nat.le_of_ble_eq_true rfl) ?_
  have h_5 := zne hF5 (by omega) h_4
  have ha_6 := (had5 56 (by omega)).trans ha0
  obtain ⟨b0, hb0⟩ : ∃ a, ad5 57 = a := ⟨_, rfl⟩
  rw [hb0]
  have h_7 := zeq hF5
  refine zputFA (E := .inr (7, [.int 50, .int 20, .int 0, .int 1000, .int 100, .int 0, .ref b0, .int 0, .int 0, .int 0, .int 0, .int 0, .int 0, .int 0, .int 0, .int 0, .int 0, .int 0, .null, .null, .int 0, .int 0, .int 0, .int 0, .int 0, .int 0, .int 0, .int 0, .int 0, .null, .int 0, .int 0, .null, .null, .null, .null, .null, .null, .null])) ha_6 hC hZ hin pX7_22 (by omega) h_5 rfl rfl rfl (Nat.le_of_ble_eq_true rfl) dX7_init_34 (fun F6 hF6 H locs hZ => ?_)
  have h_8 := zeq hF6
  refine lv_aload_n hx hb dX7_init_37 rfl (lv_at hl 0 rfl) ?_
  refine lv_bipush (v := 50) hx hb dX7_init_38 (by decide) ?_
  refine znewi (N := 50) hC hZ hA (gt_of 200 (by decide +kernel) rfl) (by decide) (by decide) (Nat.le_of_ble_eq_true rfl) (Nat.le_of_ble_eq_true rfl) (Nat.le_of_ble_eq_true rfl) dX7_init_40 (fun ad7 F7 had7 hF7 H hZ => ?_)
  have hZ : zH D (zA 57 ad sz) s.heap 59 ad7 F7 H locs := hZ
  refine W.widen (k := 2) (n := 82) (Nat.le_of_ble_eq_true rfl) (Nat.le_of_ble_eq_true rfl) ?_
  have h_9 := zne hF7 (by omega) h_8
  have ha_10 := (had7 56 (by omega)).trans ha_6
  have ha_11 := (had7 57 (by omega)).trans hb0
  obtain ⟨b1, hb1⟩ : ∃ a, ad7 58 = a := ⟨_, rfl⟩
  rw [hb1]
  have h_12 := zeq hF7
  refine zputFA (E := .inr (7, [.int 50, .int 20, .int 0, .int 1000, .int 100, .int 0, .ref b0, .int 0, .int 0, .int 0, .int 0, .int 0, .int 0, .int 0, .int 0, .int 0, .int 0, .int 0, .ref b1, .null, .int 0, .int 0, .int 0, .int 0, .int 0, .int 0, .int 0, .int 0, .int 0, .null, .int 0, .int 0, .null, .null, .null, .null, .null, .null, .null])) ha_10 hC hZ hin pX7_26 (by omega) h_9 rfl rfl rfl (Nat.le_of_ble_eq_true rfl) dX7_init_42 (fun F8 hF8 H locs hZ => ?_)
  have h_13 := zeq hF8
  refine lv_aload_n hx hb dX7_init_45 rfl (lv_at hl 0 rfl) ?_
  refine lv_sipush (v := 200) hx hb dX7_init_46 (by decide) ?_
  refine znewi (N := 200) hC hZ hA (gt_of 200 (by decide +kernel) rfl) (by decide) (by decide) (Nat.le_of_ble_eq_true rfl) (Nat.le_of_ble_eq_true rfl) (Nat.le_of_ble_eq_true rfl) dX7_init_49 (fun ad9 F9 had9 hF9 H hZ => ?_)
  have hZ : zH D (zA 57 ad sz) s.heap 60 ad9 F9 H locs := hZ
  refine W.widen (k := 3) (n := 282) (Nat.le_of_ble_eq_true rfl) (Nat.le_of_ble_eq_true rfl) ?_
  have h_14 := zne hF9 (by omega) h_13
  have ha_15 := (had9 56 (by omega)).trans ha_10
  have ha_16 := (had9 57 (by omega)).trans ha_11
  have ha_17 := (had9 58 (by omega)).trans hb1
  obtain ⟨b2, hb2⟩ : ∃ a, ad9 59 = a := ⟨_, rfl⟩
  rw [hb2]
  have h_18 := zeq hF9
  refine zputFA (E := .inr (7, [.int 50, .int 20, .int 0, .int 1000, .int 100, .int 0, .ref b0, .int 0, .int 0, .int 0, .int 0, .int 0, .int 0, .int 0, .int 0, .int 0, .int 0, .int 0, .ref b1, .ref b2, .int 0, .int 0, .int 0, .int 0, .int 0, .int 0, .int 0, .int 0, .int 0, .null, .int 0, .int 0, .null, .null, .null, .null, .null, .null, .null])) ha_15 hC hZ hin pX7_29 (by omega) h_14 rfl rfl rfl (Nat.le_of_ble_eq_true rfl) dX7_init_51 (fun F10 hF10 H locs hZ => ?_)
  have h_19 := zeq hF10
  refine lv_aload_n hx hb dX7_init_54 rfl (lv_at hl 0 rfl) ?_
  refine lv_bipush (v := 43) hx hb dX7_init_55 (by decide) ?_
  refine znewi (N := 43) hC hZ hA (gt_of 200 (by decide +kernel) rfl) (by decide) (by decide) (Nat.le_of_ble_eq_true rfl) (Nat.le_of_ble_eq_true rfl) (Nat.le_of_ble_eq_true rfl) dX7_init_57 (fun ad11 F11 had11 hF11 H hZ => ?_)
  have hZ : zH D (zA 57 ad sz) s.heap 61 ad11 F11 H locs := hZ
  refine W.widen (k := 4) (n := 325) (Nat.le_of_ble_eq_true rfl) (Nat.le_of_ble_eq_true rfl) ?_
  have h_20 := zne hF11 (by omega) h_19
  have ha_21 := (had11 56 (by omega)).trans ha_15
  have ha_22 := (had11 57 (by omega)).trans ha_16
  have ha_23 := (had11 58 (by omega)).trans ha_17
  have ha_24 := (had11 59 (by omega)).trans hb2
  obtain ⟨b3, hb3⟩ : ∃ a, ad11 60 = a := ⟨_, rfl⟩
  rw [hb3]
  have h_25 := zeq hF11
  refine zputFA (E := .inr (7, [.int 50, .int 20, .int 0, .int 1000, .int 100, .int 0, .ref b0, .int 0, .int 0, .int 0, .int 0, .int 0, .int 0, .int 0, .int 0, .int 0, .int 0, .int 0, .ref b1, .ref b2, .int 0, .int 0, .int 0, .int 0, .int 0, .int 0, .int 0, .int 0, .int 0, .ref b3, .int 0, .int 0, .null, .null, .null, .null, .null, .null, .null])) ha_21 hC hZ hin pX7_32 (by omega) h_20 rfl rfl rfl (Nat.le_of_ble_eq_true rfl) dX7_init_59 (fun F12 hF12 H locs hZ => ?_)
  have h_26 := zeq hF12
  refine lv_aload_n hx hb dX7_init_62 rfl (lv_at hl 0 rfl) ?_
  refine lv_bipush (v := 8) hx hb dX7_init_63 (by decide) ?_
  refine znewi (N := 8) hC hZ hA (gt_of 200 (by decide +kernel) rfl) (by decide) (by decide) (Nat.le_of_ble_eq_true rfl) (Nat.le_of_ble_eq_true rfl) (Nat.le_of_ble_eq_true rfl) dX7_init_65 (fun ad13 F13 had13 hF13 H hZ => ?_)
  have hZ : zH D (zA 57 ad sz) s.heap 62 ad13 F13 H locs := hZ
  refine W.widen (k := 5) (n := 333) (Nat.le_of_ble_eq_true rfl) (Nat.le_of_ble_eq_true rfl) ?_
  have h_27 := zne hF13 (by omega) h_26
  have ha_28 := (had13 56 (by omega)).trans ha_21
  have ha_29 := (had13 57 (by omega)).trans ha_22
  have ha_30 := (had13 58 (by omega)).trans ha_23
  have ha_31 := (had13 59 (by omega)).trans ha_24
  have ha_32 := (had13 60 (by omega)).trans hb3
  obtain ⟨b4, hb4⟩ : ∃ a, ad13 61 = a := ⟨_, rfl⟩
  rw [hb4]
  have h_33 := zeq hF13
  refine zputFA (E := .inr (7, [.int 50, .int 20, .int 0, .int 1000, .int 100, .int 0, .ref b0, .int 0, .int 0, .int 0, .int 0, .int 0, .int 0, .int 0, .int 0, .int 0, .int 0, .int 0, .ref b1, .ref b2, .int 0, .int 0, .int 0, .int 0, .int 0, .int 0, .int 0, .int 0, .int 0, .ref b3, .int 0, .int 0, .ref b4, .null, .null, .null, .null, .null, .null])) ha_28 hC hZ hin pX7_35 (by omega) h_27 rfl rfl rfl (Nat.le_of_ble_eq_true rfl) dX7_init_67 (fun F14 hF14 H locs hZ => ?_)
  have h_34 := zeq hF14
  refine lv_aload_n hx hb dX7_init_70 rfl (lv_at hl 0 rfl) ?_
  refine lv_bipush (v := 8) hx hb dX7_init_71 (by decide) ?_
  refine znewi (N := 8) hC hZ hA (gt_of 200 (by decide +kernel) rfl) (by decide) (by decide) (Nat.le_of_ble_eq_true rfl) (Nat.le_of_ble_eq_true rfl) (Nat.le_of_ble_eq_true rfl) dX7_init_73 (fun ad15 F15 had15 hF15 H hZ => ?_)
  have hZ : zH D (zA 57 ad sz) s.heap 63 ad15 F15 H locs := hZ
  refine W.widen (k := 6) (n := 341) (Nat.le_of_ble_eq_true rfl) (Nat.le_of_ble_eq_true rfl) ?_
  have h_35 := zne hF15 (by omega) h_34
  have ha_36 := (had15 56 (by omega)).trans ha_28
  have ha_37 := (had15 57 (by omega)).trans ha_29
  have ha_38 := (had15 58 (by omega)).trans ha_30
  have ha_39 := (had15 59 (by omega)).trans ha_31
  have ha_40 := (had15 60 (by omega)).trans ha_32
  have ha_41 := (had15 61 (by omega)).trans hb4
  obtain ⟨b5, hb5⟩ : ∃ a, ad15 62 = a := ⟨_, rfl⟩
  rw [hb5]
  have h_42 := zeq hF15
  refine zputFA (E := .inr (7, [.int 50, .int 20, .int 0, .int 1000, .int 100, .int 0, .ref b0, .int 0, .int 0, .int 0, .int 0, .int 0, .int 0, .int 0, .int 0, .int 0, .int 0, .int 0, .ref b1, .ref b2, .int 0, .int 0, .int 0, .int 0, .int 0, .int 0, .int 0, .int 0, .int 0, .ref b3, .int 0, .int 0, .ref b4, .ref b5, .null, .null, .null, .null, .null])) ha_36 hC hZ hin pX7_38 (by omega) h_35 rfl rfl rfl (Nat.le_of_ble_eq_true rfl) dX7_init_75 (fun F16 hF16 H locs hZ => ?_)
  have h_43 := zeq hF16
  refine lv_aload_n hx hb dX7_init_78 rfl (lv_at hl 0 rfl) ?_
  refine lv_bipush (v := 8) hx hb dX7_init_79 (by decide) ?_
  refine znewi (N := 8) hC hZ hA (gt_of 200 (by decide +kernel) rfl) (by decide) (by decide) (Nat.le_of_ble_eq_true rfl) (Nat.le_of_ble_eq_true rfl) (Nat.le_of_ble_eq_true rfl) dX7_init_81 (fun ad17 F17 had17 hF17 H hZ => ?_)
  have hZ : zH D (zA 57 ad sz) s.heap 64 ad17 F17 H locs := hZ
  refine W.widen (k := 7) (n := 349) (Nat.le_of_ble_eq_true rfl) (Nat.le_of_ble_eq_true rfl) ?_
  have h_44 := zne hF17 (by omega) h_43
  have ha_45 := (had17 56 (by omega)).trans ha_36
  have ha_46 := (had17 57 (by omega)).trans ha_37
  have ha_47 := (had17 58 (by omega)).trans ha_38
  have ha_48 := (had17 59 (by omega)).trans ha_39
  have ha_49 := (had17 60 (by omega)).trans ha_40
  have ha_50 := (had17 61 (by omega)).trans ha_41
  have ha_51 := (had17 62 (by omega)).trans hb5
  obtain ⟨b6, hb6⟩ : ∃ a, ad17 63 = a := ⟨_, rfl⟩
  rw [hb6]
  have h_52 := zeq hF17
  refine zputFA (E := .inr (7, [.int 50, .int 20, .int 0, .int 1000, .int 100, .int 0, .ref b0, .int 0, .int 0, .int 0, .int 0, .int 0, .int 0, .int 0, .int 0, .int 0, .int 0, .int 0, .ref b1, .ref b2, .int 0, .int 0, .int 0, .int 0, .int 0, .int 0, .int 0, .int 0, .int 0, .ref b3, .int 0, .int 0, .ref b4, .ref b5, .ref b6, .null, .null, .null, .null])) ha_45 hC hZ hin pX7_41 (by omega) h_44 rfl rfl rfl (Nat.le_of_ble_eq_true rfl) dX7_init_83 (fun F18 hF18 H locs hZ => ?_)
  have h_53 := zeq hF18
  refine lv_aload_n hx hb dX7_init_86 rfl (lv_at hl 0 rfl) ?_
  refine lv_bipush (v := 8) hx hb dX7_init_87 (by decide) ?_
  refine znewi (N := 8) hC hZ hA (gt_of 200 (by decide +kernel) rfl) (by decide) (by decide) (Nat.le_of_ble_eq_true rfl) (Nat.le_of_ble_eq_true rfl) (Nat.le_of_ble_eq_true rfl) dX7_init_89 (fun ad19 F19 had19 hF19 H hZ => ?_)
  have hZ : zH D (zA 57 ad sz) s.heap 65 ad19 F19 H locs := hZ
  refine W.widen (k := 8) (n := 357) (Nat.le_of_ble_eq_true rfl) (Nat.le_of_ble_eq_true rfl) ?_
  have h_54 := zne hF19 (by omega) h_53
  have ha_55 := (had19 56 (by omega)).trans ha_45
  have ha_56 := (had19 57 (by omega)).trans ha_46
  have ha_57 := (had19 58 (by omega)).trans ha_47
  have ha_58 := (had19 59 (by omega)).trans ha_48
  have ha_59 := (had19 60 (by omega)).trans ha_49
  have ha_60 := (had19 61 (by omega)).trans ha_50
  have ha_61 := (had19 62 (by omega)).trans ha_51
  have ha_62 := (had19 63 (by omega)).trans hb6
  obtain ⟨b7, hb7⟩ : ∃ a, ad19 64 = a := ⟨_, rfl⟩
  rw [hb7]
  have h_63 := zeq hF19
  refine zputFA (E := .inr (7, [.int 50, .int 20, .int 0, .int 1000, .int 100, .int 0, .ref b0, .int 0, .int 0, .int 0, .int 0, .int 0, .int 0, .int 0, .int 0, .int 0, .int 0, .int 0, .ref b1, .ref b2, .int 0, .int 0, .int 0, .int 0, .int 0, .int 0, .int 0, .int 0, .int 0, .ref b3, .int 0, .int 0, .ref b4, .ref b5, .ref b6, .ref b7, .null, .null, .null])) ha_55 hC hZ hin pX7_44 (by omega) h_54 rfl rfl rfl (Nat.le_of_ble_eq_true rfl) dX7_init_91 (fun F20 hF20 H locs hZ => ?_)
  have h_64 := zeq hF20
  refine lv_aload_n hx hb dX7_init_94 rfl (lv_at hl 0 rfl) ?_
  refine lv_bipush (v := 8) hx hb dX7_init_95 (by decide) ?_
  refine znewi (N := 8) hC hZ hA (gt_of 200 (by decide +kernel) rfl) (by decide) (by decide) (Nat.le_of_ble_eq_true rfl) (Nat.le_of_ble_eq_true rfl) (Nat.le_of_ble_eq_true rfl) dX7_init_97 (fun ad21 F21 had21 hF21 H hZ => ?_)
  have hZ : zH D (zA 57 ad sz) s.heap 66 ad21 F21 H locs := hZ
  refine W.widen (k := 9) (n := 365) (Nat.le_of_ble_eq_true rfl) (Nat.le_of_ble_eq_true rfl) ?_
  have h_65 := zne hF21 (by omega) h_64
  have ha_66 := (had21 56 (by omega)).trans ha_55
  have ha_67 := (had21 57 (by omega)).trans ha_56
  have ha_68 := (had21 58 (by omega)).trans ha_57
  have ha_69 := (had21 59 (by omega)).trans ha_58
  have ha_70 := (had21 60 (by omega)).trans ha_59
  have ha_71 := (had21 61 (by omega)).trans ha_60
  have ha_72 := (had21 62 (by omega)).trans ha_61
  have ha_73 := (had21 63 (by omega)).trans ha_62
  have ha_74 := (had21 64 (by omega)).trans hb7
  obtain ⟨b8, hb8⟩ : ∃ a, ad21 65 = a := ⟨_, rfl⟩
  rw [hb8]
  have h_75 := zeq hF21
  refine zputFA (E := .inr (7, [.int 50, .int 20, .int 0, .int 1000, .int 100, .int 0, .ref b0, .int 0, .int 0, .int 0, .int 0, .int 0, .int 0, .int 0, .int 0, .int 0, .int 0, .int 0, .ref b1, .ref b2, .int 0, .int 0, .int 0, .int 0, .int 0, .int 0, .int 0, .int 0, .int 0, .ref b3, .int 0, .int 0, .ref b4, .ref b5, .ref b6, .ref b7, .ref b8, .null, .null])) ha_66 hC hZ hin pX7_47 (by omega) h_65 rfl rfl rfl (Nat.le_of_ble_eq_true rfl) dX7_init_99 (fun F22 hF22 H locs hZ => ?_)
  have h_76 := zeq hF22
  refine lv_aload_n hx hb dX7_init_102 rfl (lv_at hl 0 rfl) ?_
  refine lv_sipush (v := 800) hx hb dX7_init_103 (by decide) ?_
  refine znewl (N := 800) hC hZ hA (gt_of 876 (by decide +kernel) rfl) (by decide) (by decide) (Nat.le_of_ble_eq_true rfl) (Nat.le_of_ble_eq_true rfl) (Nat.le_of_ble_eq_true rfl) dX7_init_106 (fun ad23 F23 had23 hF23 H hZ => ?_)
  have hZ : zH D (zA 57 ad sz) s.heap 67 ad23 F23 H locs := hZ
  refine W.widen (k := 10) (n := 1165) (Nat.le_of_ble_eq_true rfl) (Nat.le_of_ble_eq_true rfl) ?_
  have h_77 := zne hF23 (by omega) h_76
  have ha_78 := (had23 56 (by omega)).trans ha_66
  have ha_79 := (had23 57 (by omega)).trans ha_67
  have ha_80 := (had23 58 (by omega)).trans ha_68
  have ha_81 := (had23 59 (by omega)).trans ha_69
  have ha_82 := (had23 60 (by omega)).trans ha_70
  have ha_83 := (had23 61 (by omega)).trans ha_71
  have ha_84 := (had23 62 (by omega)).trans ha_72
  have ha_85 := (had23 63 (by omega)).trans ha_73
  have ha_86 := (had23 64 (by omega)).trans ha_74
  have ha_87 := (had23 65 (by omega)).trans hb8
  obtain ⟨b9, hb9⟩ : ∃ a, ad23 66 = a := ⟨_, rfl⟩
  rw [hb9]
  have h_88 := zeq hF23
  refine zputFA (E := .inr (7, [.int 50, .int 20, .int 0, .int 1000, .int 100, .int 0, .ref b0, .int 0, .int 0, .int 0, .int 0, .int 0, .int 0, .int 0, .int 0, .int 0, .int 0, .int 0, .ref b1, .ref b2, .int 0, .int 0, .int 0, .int 0, .int 0, .int 0, .int 0, .int 0, .int 0, .ref b3, .int 0, .int 0, .ref b4, .ref b5, .ref b6, .ref b7, .ref b8, .ref b9, .null])) ha_78 hC hZ hin pX7_50 (by omega) h_77 rfl rfl rfl (Nat.le_of_ble_eq_true rfl) dX7_init_108 (fun F24 hF24 H locs hZ => ?_)
  have h_89 := zeq hF24
  refine lv_aload_n hx hb dX7_init_111 rfl (lv_at hl 0 rfl) ?_
  refine lv_bipush (v := 100) hx hb dX7_init_112 (by decide) ?_
  refine znewl (N := 100) hC hZ hA (gt_of 876 (by decide +kernel) rfl) (by decide) (by decide) (Nat.le_of_ble_eq_true rfl) (Nat.le_of_ble_eq_true rfl) (Nat.le_of_ble_eq_true rfl) dX7_init_114 (fun ad25 F25 had25 hF25 H hZ => ?_)
  have hZ : zH D (zA 57 ad sz) s.heap 68 ad25 F25 H locs := hZ
  refine W.widen (k := 11) (n := 1265) (Nat.le_of_ble_eq_true rfl) (Nat.le_of_ble_eq_true rfl) ?_
  have h_90 := zne hF25 (by omega) h_89
  have ha_91 := (had25 56 (by omega)).trans ha_78
  have ha_92 := (had25 57 (by omega)).trans ha_79
  have ha_93 := (had25 58 (by omega)).trans ha_80
  have ha_94 := (had25 59 (by omega)).trans ha_81
  have ha_95 := (had25 60 (by omega)).trans ha_82
  have ha_96 := (had25 61 (by omega)).trans ha_83
  have ha_97 := (had25 62 (by omega)).trans ha_84
  have ha_98 := (had25 63 (by omega)).trans ha_85
  have ha_99 := (had25 64 (by omega)).trans ha_86
  have ha_100 := (had25 65 (by omega)).trans ha_87
  have ha_101 := (had25 66 (by omega)).trans hb9
  obtain ⟨b10, hb10⟩ : ∃ a, ad25 67 = a := ⟨_, rfl⟩
  rw [hb10]
  have h_102 := zeq hF25
  refine zputFA (E := .inr (7, [.int 50, .int 20, .int 0, .int 1000, .int 100, .int 0, .ref b0, .int 0, .int 0, .int 0, .int 0, .int 0, .int 0, .int 0, .int 0, .int 0, .int 0, .int 0, .ref b1, .ref b2, .int 0, .int 0, .int 0, .int 0, .int 0, .int 0, .int 0, .int 0, .int 0, .ref b3, .int 0, .int 0, .ref b4, .ref b5, .ref b6, .ref b7, .ref b8, .ref b9, .ref b10])) ha_91 hC hZ hin pX7_54 (by omega) h_90 rfl rfl rfl (Nat.le_of_ble_eq_true rfl) dX7_init_116 (fun F26 hF26 H locs hZ => ?_)
  have h_103 := zeq hF26
  refine lv_aload_n hx hb dX7_init_119 rfl (lv_at hl 0 rfl) ?_
  refine lv_iconst (v := 0) hx hb dX7_init_120 (by decide) ?_
  refine zputA (E := .inr (7, [.int 50, .int 20, .int 0, .int 1000, .int 100, .int 0, .ref b0, .int 0, .int 0, .int 0, .int 0, .int 0, .int 0, .int 0, .int 0, .int 0, .int 0, .int 0, .ref b1, .ref b2, .int 0, .int 0, .int 0, .int 0, .int 0, .int 0, .int 0, .int 0, .int 0, .ref b3, .int 0, .int 0, .ref b4, .ref b5, .ref b6, .ref b7, .ref b8, .ref b9, .ref b10])) ha_91 hC hZ pX7_57 (by omega) h_103 rfl rfl rfl (Nat.le_of_ble_eq_true rfl) dX7_init_121 (fun F27 hF27 H locs hZ => ?_)
  have h_104 := zeq hF27
  have sn_27 : ∀ j, j < 68 → ¬ j = 56 → F27 j = F27 j ∧ ad25 j = ad25 j := fun j h g0 => ⟨rfl, rfl⟩
  have sn_26 : ∀ j, j < 68 → ¬ j = 56 → F27 j = F26 j ∧ ad25 j = ad25 j := fun j h g0 => ⟨(sn_27 j (by omega) g0).1.trans (znu hF27 (by omega)), (sn_27 j (by omega) g0).2.trans rfl⟩
  have sn_25 : ∀ j, j < 68 → ¬ j = 56 → F27 j = F25 j ∧ ad25 j = ad25 j := fun j h g0 => ⟨(sn_26 j (by omega) g0).1.trans (znu hF26 (by omega)), (sn_26 j (by omega) g0).2.trans rfl⟩
  have sn_24 : ∀ j, j < 67 → ¬ j = 56 → F27 j = F24 j ∧ ad25 j = ad23 j := fun j h g0 => ⟨(sn_25 j (by omega) g0).1.trans (znu hF25 (by omega)), (sn_25 j (by omega) g0).2.trans (had25 j (by omega))⟩
  have sn_23 : ∀ j, j < 67 → ¬ j = 56 → F27 j = F23 j ∧ ad25 j = ad23 j := fun j h g0 => ⟨(sn_24 j (by omega) g0).1.trans (znu hF24 (by omega)), (sn_24 j (by omega) g0).2.trans rfl⟩
  have sn_22 : ∀ j, j < 66 → ¬ j = 56 → F27 j = F22 j ∧ ad25 j = ad21 j := fun j h g0 => ⟨(sn_23 j (by omega) g0).1.trans (znu hF23 (by omega)), (sn_23 j (by omega) g0).2.trans (had23 j (by omega))⟩
  have sn_21 : ∀ j, j < 66 → ¬ j = 56 → F27 j = F21 j ∧ ad25 j = ad21 j := fun j h g0 => ⟨(sn_22 j (by omega) g0).1.trans (znu hF22 (by omega)), (sn_22 j (by omega) g0).2.trans rfl⟩
  have sn_20 : ∀ j, j < 65 → ¬ j = 56 → F27 j = F20 j ∧ ad25 j = ad19 j := fun j h g0 => ⟨(sn_21 j (by omega) g0).1.trans (znu hF21 (by omega)), (sn_21 j (by omega) g0).2.trans (had21 j (by omega))⟩
  have sn_19 : ∀ j, j < 65 → ¬ j = 56 → F27 j = F19 j ∧ ad25 j = ad19 j := fun j h g0 => ⟨(sn_20 j (by omega) g0).1.trans (znu hF20 (by omega)), (sn_20 j (by omega) g0).2.trans rfl⟩
  have sn_18 : ∀ j, j < 64 → ¬ j = 56 → F27 j = F18 j ∧ ad25 j = ad17 j := fun j h g0 => ⟨(sn_19 j (by omega) g0).1.trans (znu hF19 (by omega)), (sn_19 j (by omega) g0).2.trans (had19 j (by omega))⟩
  have sn_17 : ∀ j, j < 64 → ¬ j = 56 → F27 j = F17 j ∧ ad25 j = ad17 j := fun j h g0 => ⟨(sn_18 j (by omega) g0).1.trans (znu hF18 (by omega)), (sn_18 j (by omega) g0).2.trans rfl⟩
  have sn_16 : ∀ j, j < 63 → ¬ j = 56 → F27 j = F16 j ∧ ad25 j = ad15 j := fun j h g0 => ⟨(sn_17 j (by omega) g0).1.trans (znu hF17 (by omega)), (sn_17 j (by omega) g0).2.trans (had17 j (by omega))⟩
  have sn_15 : ∀ j, j < 63 → ¬ j = 56 → F27 j = F15 j ∧ ad25 j = ad15 j := fun j h g0 => ⟨(sn_16 j (by omega) g0).1.trans (znu hF16 (by omega)), (sn_16 j (by omega) g0).2.trans rfl⟩
  have sn_14 : ∀ j, j < 62 → ¬ j = 56 → F27 j = F14 j ∧ ad25 j = ad13 j := fun j h g0 => ⟨(sn_15 j (by omega) g0).1.trans (znu hF15 (by omega)), (sn_15 j (by omega) g0).2.trans (had15 j (by omega))⟩
  have sn_13 : ∀ j, j < 62 → ¬ j = 56 → F27 j = F13 j ∧ ad25 j = ad13 j := fun j h g0 => ⟨(sn_14 j (by omega) g0).1.trans (znu hF14 (by omega)), (sn_14 j (by omega) g0).2.trans rfl⟩
  have sn_12 : ∀ j, j < 61 → ¬ j = 56 → F27 j = F12 j ∧ ad25 j = ad11 j := fun j h g0 => ⟨(sn_13 j (by omega) g0).1.trans (znu hF13 (by omega)), (sn_13 j (by omega) g0).2.trans (had13 j (by omega))⟩
  have sn_11 : ∀ j, j < 61 → ¬ j = 56 → F27 j = F11 j ∧ ad25 j = ad11 j := fun j h g0 => ⟨(sn_12 j (by omega) g0).1.trans (znu hF12 (by omega)), (sn_12 j (by omega) g0).2.trans rfl⟩
  have sn_10 : ∀ j, j < 60 → ¬ j = 56 → F27 j = F10 j ∧ ad25 j = ad9 j := fun j h g0 => ⟨(sn_11 j (by omega) g0).1.trans (znu hF11 (by omega)), (sn_11 j (by omega) g0).2.trans (had11 j (by omega))⟩
  have sn_9 : ∀ j, j < 60 → ¬ j = 56 → F27 j = F9 j ∧ ad25 j = ad9 j := fun j h g0 => ⟨(sn_10 j (by omega) g0).1.trans (znu hF10 (by omega)), (sn_10 j (by omega) g0).2.trans rfl⟩
  have sn_8 : ∀ j, j < 59 → ¬ j = 56 → F27 j = F8 j ∧ ad25 j = ad7 j := fun j h g0 => ⟨(sn_9 j (by omega) g0).1.trans (znu hF9 (by omega)), (sn_9 j (by omega) g0).2.trans (had9 j (by omega))⟩
  have sn_7 : ∀ j, j < 59 → ¬ j = 56 → F27 j = F7 j ∧ ad25 j = ad7 j := fun j h g0 => ⟨(sn_8 j (by omega) g0).1.trans (znu hF8 (by omega)), (sn_8 j (by omega) g0).2.trans rfl⟩
  have sn_6 : ∀ j, j < 58 → ¬ j = 56 → F27 j = F6 j ∧ ad25 j = ad5 j := fun j h g0 => ⟨(sn_7 j (by omega) g0).1.trans (znu hF7 (by omega)), (sn_7 j (by omega) g0).2.trans (had7 j (by omega))⟩
  have sn_5 : ∀ j, j < 58 → ¬ j = 56 → F27 j = F5 j ∧ ad25 j = ad5 j := fun j h g0 => ⟨(sn_6 j (by omega) g0).1.trans (znu hF6 (by omega)), (sn_6 j (by omega) g0).2.trans rfl⟩
  have sn_4 : ∀ j, j < 56 → ¬ j = 56 → F27 j = F4 j ∧ ad25 j = ad j := fun j h g0 => ⟨(sn_5 j (by omega) g0).1.trans (znu hF5 (by omega)), (sn_5 j (by omega) g0).2.trans (had5 j (by omega))⟩
  have sn_3 : ∀ j, j < 56 → ¬ j = 56 → F27 j = F3 j ∧ ad25 j = ad j := fun j h g0 => ⟨(sn_4 j (by omega) g0).1.trans (znu hF4 (by omega)), (sn_4 j (by omega) g0).2.trans rfl⟩
  have sn_2 : ∀ j, j < 56 → ¬ j = 56 → F27 j = F2 j ∧ ad25 j = ad j := fun j h g0 => ⟨(sn_3 j (by omega) g0).1.trans (znu hF3 (by omega)), (sn_3 j (by omega) g0).2.trans rfl⟩
  have sn_1 : ∀ j, j < 56 → ¬ j = 56 → F27 j = F1 j ∧ ad25 j = ad j := fun j h g0 => ⟨(sn_2 j (by omega) g0).1.trans (znu hF2 (by omega)), (sn_2 j (by omega) g0).2.trans rfl⟩
  have sn_0 : ∀ j, j < 56 → ¬ j = 56 → F27 j = F j ∧ ad25 j = ad j := fun j h g0 => ⟨(sn_1 j (by omega) g0).1.trans (znu hF1 (by omega)), (sn_1 j (by omega) g0).2.trans rfl⟩
  have hq1 : ∀ j, j < 57 → ad25 j = ad j := fun j hj => by
    by_cases e : j = 56
    · rw [e]; exact ha_91.trans ha0.symm
    · exact (sn_0 j (by omega) e).2
  have hq2 : ∀ j, j < 56 → F27 j = F j := fun j hj => (sn_0 j (by omega) (by omega)).1
  have hq3 : RM ad25 cy F27 0 0 sc0 sc0 (fun _ => sf0) := by
    refine ⟨0, 0, (0, 0), 0, 0, 0, 0, sCC, 0, 0, fun _ => 0, fun _ => 0, fun _ => 0, fun _ => 0, fun _ => 0, fun _ => 0, fun _ => 0, fun _ => 0, fun _ => 0, fun _ => 0, fun _ => 0, ?_, ((sn_5 57 (by omega) (by omega)).1.trans h_7), ((sn_7 58 (by omega) (by omega)).1.trans h_12), ((sn_9 59 (by omega) (by omega)).1.trans h_18), ((sn_11 60 (by omega) (by omega)).1.trans h_25), ((sn_13 61 (by omega) (by omega)).1.trans h_33), ((sn_15 62 (by omega) (by omega)).1.trans h_42), ((sn_17 63 (by omega) (by omega)).1.trans h_52), ((sn_19 64 (by omega) (by omega)).1.trans h_63), ((sn_21 65 (by omega) (by omega)).1.trans h_75), ((sn_23 66 (by omega) (by omega)).1.trans h_88), ((sn_25 67 (by omega) (by omega)).1.trans h_102), ?_, ?_, ?_⟩
    · rw [h_104]; unfold oModel
      rw [show ad25 57 = b0 from ha_92, show ad25 58 = b1 from ha_93, show ad25 59 = b2 from ha_94, show ad25 60 = b3 from ha_95, show ad25 61 = b4 from ha_96, show ad25 62 = b5 from ha_97, show ad25 63 = b6 from ha_98, show ad25 64 = b7 from ha_99, show ad25 65 = b8 from ha_100, show ad25 66 = b9 from ha_101, show ad25 67 = b10 from hb10]; rfl
    · intro i hi; rw [show iN sc0.2.2.2.1 = 0 from rfl] at hi; omega
    · intro h; exact absurd rfl h
    · intro d _; exact ⟨rfl, fun h => absurd (show (0 : Int32) = 1 from h) (by decide), fun h => absurd (show (0 : Int32) = 2 from h) (by decide)⟩
  exact zvretN hC hZ hr hlocks (φ := (fun u : (Nat → Nat) × (Nat → va_E) => (∀ j, j < 57 → u.1 j = ad j) ∧ (∀ j, j < 56 → u.2 j = F j) ∧ RM u.1 cy u.2 0 0 sc0 sc0 (fun _ => sf0))) ⟨hq1, hq2, hq3⟩ dX7_init_124
