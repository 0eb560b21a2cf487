/-! ===== exceptions over numbered cells ===== -/
abbrev sIAE : String := "java/lang/IllegalArgumentException"
abbrev sUOE : String := "java/lang/UnsupportedOperationException"
abbrev sISE : String := "java/lang/IllegalStateException"
def nestX : Cond → Bool
  | .castable .. => true
  | .declares _ => true
  | _ => false
def zNX (U : State) : Prop := ∀ w ∈ lw_tbl, nestX w = true → w.before #[] U = true
theorem zNX.warm {s U : State} (hW : s.WarmedH U.vm) (h : zNX s) : zNX U := by
  intro w hw hn
  have hb := h w hw hn
  match w, hn with
  | .castable _ _, _ => exact va_Nw.warmC hW hb
  | .declares _, _ => exact va_Nw.warmD hW hb
theorem nestX_on {w : Cond} (h : nestX w = true) : w.onTables = true := by
  match w, h with
  | .castable _ _, _ => rfl
  | .declares _, _ => rfl
/-- what a throw needs of a state, its statics' cells outside A -/
def zXs (A : Nat → Prop) (sa : Nat → Nat) (U : State) : Prop :=
  zNX U ∧ (va_Nc sUOE sIAE U ∧ va_Nc sISE sIAE U ∧ va_Nc sISE sUOE U) ∧
  (vk_R RX5 64 "a bent one fails" (sa 0) U ∧ vk_R RX5 71 "one of none fails" (sa 1) U ∧ vk_R RX5 76 "a story fails" (sa 2) U ∧ vk_R RX6 275 "no such shelf" (sa 3) U ∧ vk_R RX6 285 "no row, or no such place" (sa 4) U) ∧
  vx_Zq Bundle.tN "UNASSIGNED_STACK" Bundle.steD A U U.heap ∧ vx_Zq Bundle.tN "SUPPRESSED_SENTINEL" Bundle.listD A U U.heap
theorem zXs.go {A B : Nat → Prop} {sa : Nat → Nat} {s U : State} (hW : s.WarmedH U.vm) (hH : ∀ a : Nat, a < s.heap.size → ¬ A a → U.heap[a]? = s.heap[a]?) (hAB : ∀ q, B q → A q) (h : zXs A sa s) : zXs B sa U := by
  obtain ⟨h1, ⟨h2, h3, h4⟩, ⟨h5, h6, h7, h8, h9⟩, h10, h11⟩ := h
  exact ⟨h1.warm hW, ⟨h2.moved hW.alike, h3.moved hW.alike, h4.moved hW.alike⟩, ⟨vk_R.warm hW h5, vk_R.warm hW h6, vk_R.warm hW h7, vk_R.warm hW h8, vk_R.warm hW h9⟩, ((h10.kept hH).moved hW.alike).narrow hAB, ((h11.kept hH).moved hW.alike).narrow hAB⟩
def zPcX (D : va_G) (cy : Nat → Nat) (n : Nat) (ad : Nat → Nat) (F : Nat → va_E) (sz : Nat) (sa : Nat → Nat) (av : List Value) : Array Value → State → Prop :=
  va_Pc av (fun U => (U.heap.size = sz ∧ va_P D vwCl (zW n ad F) U.heap ∧ va_K D vwCl (zT cy) U ∧ va_D (fun _ => True) (zW n ad F) ∧ zN U) ∧ zXs (zA n ad sz) sa U)
theorem zPcX.blind {D : va_G} {cy : Nat → Nat} {n : Nat} {ad : Nat → Nat} {F : Nat → va_E} {sz : Nat} {sa : Nat → Nat} {av : List Value} : FrameBlind (zPcX D cy n ad F sz sa av) := by
  rintro a U g mk ⟨h1, ⟨h2, h3, h4, h5, h6⟩, h7⟩
  exact ⟨h1, ⟨h2, h3, va_K.moved (u := U) (U := U.calling g mk a) (Vm.Alike.refl U.vm) h4, h5, zN.same (s := U) (U := U.calling g mk a) rfl h6⟩, zXs.go (s := U) (U := U.calling g mk a) (State.WarmedH.refl U) (fun _ _ _ => rfl) (fun _ h => h) h7⟩
def zwH (y : MethodName) (b : ByteArray) (nl : Nat) (ret : Option FieldType) (hh : List (Nat × Nat × Nat × Nat)) : List Cond := Cond.codeWith y b nl ret hh :: gtbl
theorem gt_GoodInH {y : MethodName} {b : ByteArray} {n : Nat} {r : Option FieldType} {hh : List (Nat × Nat × Nat × Nat)} (h : Cond.codeWith y b n r hh ∈ gtbl) : GoodIn gtbl (Cond.codeWith y b n r hh :: gtbl) := by
  intro w hw
  rcases List.mem_cons.mp hw with rfl | hw
  · exact ⟨h, gt_good h⟩
  · exact ⟨hw, gt_good hw⟩
def zMdH (y : MethodName) (b : ByteArray) (nl : Nat) (ret : Option FieldType) (hh : List (Nat × Nat × Nat × Nat)) (na : Nat) : Prop :=
  (y.cls ≠ "java/lang/invoke/MethodHandle" ∧ y.cls ≠ "java/lang/invoke/VarHandle" ∧ (parseMethodDescriptor y.desc).map (fun d => d.parameters.length) = some na) ∧ Cond.codeWith y b nl ret hh ∈ gtbl ∧ Cond.initialized y.cls ∈ gtbl ∧ nl ≤ 13
abbrev nmsX : List String := ["java/lang/RuntimeException", "java/lang/Exception"]
/-- 'throw new cls(text)' in own, by its places -/
def zThr (own : String) (ik ic : Nat) (cls : String) : Prop := Bundle.fit cls = true ∧ Cond.classLink own ik cls ∈ gtbl ∧ Cond.initialized cls ∈ gtbl ∧ (∀ w ∈ (vx_atS own ic cls nmsX).filter goodWord, w ∈ lw_tbl) ∧ (∀ w ∈ (vx_atS own ic cls nmsX).filter (fun w => !goodWord w), w ∈ lw_tbl ∧ nestX w = true) ∧
  (Cond.classLink own ik cls :: Cond.initialized cls :: vx_atS own ic cls nmsX).all vx_ot = true
section ZXR
variable {p : Program} {l : Launch} {e : Env} {R : Room} {s : State} {m : MethodId} {args : Array Value} {below : List Frame} {meth : Method} {c : Code} {H : Heap} {locs : List Loc} {cells slots : Nat} {Q : State → Prop}
variable {cc : ByteArray} {nL pc : Nat} {ls : Array Slot} {rest : List Value} {D : va_G} {cy : Nat → Nat} {A : Nat → Prop} {H0 : Heap} {own : String} {n : Nat} {ad : Nat → Nat} {F : Nat → va_E} {sa : Nat → Nat}
theorem zmetX {y : MethodName} {maxL : Nat} {ret : Option FieldType} {rm : Room} {sz mc ms : Nat} {av : List Value} {Qc : Array Value → State → Outcome → State → Prop} {XC : String → State → State → Prop} (hy : plainName y.cls = true) (hlen : (lg_sl av).length ≤ maxL)
    (body : ∀ (p : Program) (e : Env) (s : State) (m : MethodId) (args : Array Value) (below : List Frame) (meth : Method) (c : Code) (ls : Array Slot),
      zC p m c cc maxL s args y.cls D cy → s.heap.size = sz → zH D (zA n ad sz) s.heap n ad F s.heap [] → (∀ q, s.heap.size ≤ q → zA n ad sz q) → meth.sig.returnType = ret → meth.locks = false → (∀ x ∈ c.exceptionTable.toList, False) → zXs (zA n ad sz) sa s →
      lv_has ls maxL (lv_args 0 av) → W p l e rm s m args below meth c s.heap [] 0 0 (vx_MQ below Qc XC args s mc ms (zA n ad sz)) (F0 m 0 ls [])) :
    vx_Met l y (zw y cc maxL ret) rm (zPcX D cy n ad F sz sa av) Qc XC mc ms (zA n ad sz) := by
  refine vx_ofW (cc := cc) (maxL := maxL) (ret := ret) hy rfl ?_
  intro p e s m args below meth c s₁ B hml htab hv
  obtain ⟨rfl, ⟨hsz, hP, hK, hD0, hN⟩, hXs⟩ := hv
  have hts := atoms_spec (ws := zw y cc maxL ret) B.pre
  have hown : s.vm.findClass y.cls = some m.cls := findClass_of_methodNamed B.named
  have hl := lv_entry av (n := maxL) hlen
  rw [lg_entry_eq]
  refine body p e s m _ below meth c _ ⟨⟨B.exec, B.bytes, hml, hown, fun w hw => hts w (List.mem_cons_of_mem _ hw)⟩, hK, hN⟩ hsz ⟨hP, ?_, va_S.rf⟩ (fun q h => by rw [hsz] at h; exact zA_le h) B.returns B.notSynchronized htab hXs hl
  have := hD0.self (sz := sz)
  rwa [zA_eq] at this
theorem zmetH {y : MethodName} {maxL : Nat} {ret : Option FieldType} {hh : List (Nat × Nat × Nat × Nat)} {rm : Room} {sz mc ms : Nat} {av : List Value} {Qc : Array Value → State → Outcome → State → Prop} {XC : String → State → State → Prop} (hy : plainName y.cls = true) (hlen : (lg_sl av).length ≤ maxL)
    (body : ∀ (p : Program) (e : Env) (s : State) (m : MethodId) (args : Array Value) (below : List Frame) (meth : Method) (c : Code) (ls : Array Slot),
      zC p m c cc maxL s args y.cls D cy → s.heap.size = sz → zH D (zA n ad sz) s.heap n ad F s.heap [] → (∀ q, s.heap.size ≤ q → zA n ad sz q) → meth.sig.returnType = ret → meth.locks = false → c.exceptionTable.toList = tableOf hh → zXs (zA n ad sz) sa s →
      lv_has ls maxL (lv_args 0 av) → W p l e rm s m args below meth c s.heap [] 0 0 (vx_MQ below Qc XC args s mc ms (zA n ad sz)) (F0 m 0 ls [])) :
    vx_Met l y (zwH y cc maxL ret hh) rm (zPcX D cy n ad F sz sa av) Qc XC mc ms (zA n ad sz) := by
  refine vx_ofWH (cc := cc) (maxL := maxL) (ret := ret) (hh := hh) hy rfl ?_
  intro p e s m args below meth c s₁ B hml hv
  obtain ⟨rfl, ⟨hsz, hP, hK, hD0, hN⟩, hXs⟩ := hv
  have hts := atoms_spec (ws := zwH y cc maxL ret hh) B.pre
  have htab := vx_table (x := y) B (hts _ List.mem_cons_self)
  have hown : s.vm.findClass y.cls = some m.cls := findClass_of_methodNamed B.named
  have hl := lv_entry av (n := maxL) hlen
  rw [lg_entry_eq]
  refine body p e s m _ below meth c _ ⟨⟨B.exec, B.bytes, hml, hown, fun w hw => hts w (List.mem_cons_of_mem _ hw)⟩, hK, hN⟩ hsz ⟨hP, ?_, va_S.rf⟩ (fun q h => by rw [hsz] at h; exact zA_le h) B.returns B.notSynchronized htab hXs hl
  have := hD0.self (sz := sz)
  rwa [zA_eq] at this
theorem zmetM {y : MethodName} {maxL : Nat} {ret : Option FieldType} {rm : Room} {sz mc ms : Nat} {av : List Value} {Qc : Array Value → State → Outcome → State → Prop} (hy : plainName y.cls = true) (hlen : (lg_sl av).length ≤ maxL)
    (body : ∀ (p : Program) (e : Env) (s : State) (m : MethodId) (args : Array Value) (below : List Frame) (meth : Method) (c : Code) (ls : Array Slot),
      zC p m c cc maxL s args y.cls D cy → s.heap.size = sz → zH D (zA n ad sz) s.heap n ad F s.heap [] → (∀ q, s.heap.size ≤ q → zA n ad sz q) → meth.sig.returnType = ret → meth.locks = false → zXs (zA n ad sz) sa s →
      lv_has ls maxL (lv_args 0 av) → W p l e rm s m args below meth c s.heap [] 0 0 (MQ below Qc args s mc ms (zA n ad sz)) (F0 m 0 ls [])) :
    Met l y (zw y cc maxL ret) rm (zPcX D cy n ad F sz sa av) Qc mc ms (zA n ad sz) := by
  refine Met.ofW (cc := cc) (maxL := maxL) (ret := ret) hy rfl ?_
  intro p e s m args below meth c s₁ B hml hv
  obtain ⟨rfl, ⟨hsz, hP, hK, hD0, hN⟩, hXs⟩ := hv
  have hts := atoms_spec (ws := zw y cc maxL ret) B.pre
  have hown : s.vm.findClass y.cls = some m.cls := findClass_of_methodNamed B.named
  have hl := lv_entry av (n := maxL) hlen
  rw [lg_entry_eq]
  refine body p e s m _ below meth c _ ⟨⟨B.exec, B.bytes, hml, hown, fun w hw => hts w (List.mem_cons_of_mem _ hw)⟩, hK, hN⟩ hsz ⟨hP, ?_, va_S.rf⟩ (fun q h => by rw [hsz] at h; exact zA_le h) B.returns B.notSynchronized hXs hl
  have := hD0.self (sz := sz)
  rwa [zA_eq] at this
theorem zpreX (hC : zC p m c cc nL s args own D cy) (hZ : zH D A s.heap n ad F H locs) (hA : ∀ q, s.heap.size ≤ q → A q) (hXs : zXs A sa s) {av : List Value} : ∀ U : State, U.heap = H → s.WarmedH U.vm → zPcX D cy n ad F H.size sa av av.toArray U :=
  fun U hU hW => ⟨rfl, ⟨by rw [hU], by rw [hU]; exact hZ.1, va_K.moved hW.alike hC.2.1, hZ.2.1.weaken (fun _ _ _ _ => trivial), hC.2.2.warm hW⟩, hXs.go hW (by rw [hU]; exact hZ.2.2.2.1) (fun q h => zA_sub hZ.2.1 (fun q h => hA q (Nat.le_trans hZ.2.2.1 h)) q h)⟩
theorem zthrow (hC : zC p m c cc nL s args own D cy) (hZ : zH D A s.heap n ad F H locs) (hl9 : l.stackTraces = false) (hXs : zXs A sa s) {cls text : String} {ik is ic sa0 : Nat} (hw : zThr own ik ic cls) (hstr : vk_R own is text sa0 s) (hsize : ls.size = nL)
    (d0 : decode cc pc = .ok (.new ik, 3)) (d3 : decode cc (pc + 3) = .ok (.dup, 1)) (d4 : decode cc (pc + 4) = .ok (.ldc is, 2)) (d6 : decode cc (pc + 6) = .ok (.invokespecial ic, 3)) (d9 : decode cc (pc + 9) = .ok (.athrow, 1)) (hout : ∀ x ∈ c.exceptionTable.toList, False)
    (hR1 : 5 < R.frames) (hR2 : (rest.map fun v => v.category).sum + 82 ≤ R.locals) (hR3 : cells + 1 ≤ R.cells) (hR4 : slots + 6 ≤ R.slots) (hlocks : meth.locks = false) {Qc : Array Value → State → Outcome → State → Prop} {px : Unit → Prop} {nm : String} (hnm : cls = nm) (hpx : px ()) {mc ms : Nat} (hc : cells + 1 ≤ mc) (hs : slots + 6 ≤ ms) :
    W p l e R s m args below meth c H locs cells slots (vx_MQ below Qc (vx_X px (fun E _ t => E = nm ∧ zB D n ad F t) A) args s mc ms A) (F0 m pc ls rest) := by
  obtain ⟨⟨hx, hb, hml, hown, hts⟩, hK, hNN⟩ := hC
  obtain ⟨f1, f2, f3, f4, f5, f6⟩ := hw
  obtain ⟨x1, x2, x3, x4, x5⟩ := hXs
  have hat : ∀ w ∈ vx_atS own ic cls nmsX, w.before args s = true := by
    intro w hw
    by_cases g : goodWord w = true
    · exact hts _ (List.mem_filter.mpr ⟨f4 w (List.mem_filter.mpr ⟨hw, g⟩), g⟩)
    · have h9 := f5 w (List.mem_filter.mpr ⟨hw, by cases hg : goodWord w; rfl; exact absurd hg g⟩)
      exact va_any (nestX_on h9.2) (x1 w h9.1 h9.2)
  refine vx_throwS (names := nmsX) (A := A) hx hb hl9 hown f1 (by decide +kernel) (hts _ f2) (hts _ f3) hstr hat (fun w hw => List.all_eq_true.mp f6 w hw) x4 x5 hZ.2.2 (hsize.trans hml.symm) d0 d3 d4 d6 d9 (fun x h => (hout x h).elim) hR1 hR2 hR3 hR4 hlocks (fun t _ h1 h2 => ⟨(), hpx, ⟨hnm, ?_⟩, Nat.le_trans hZ.2.2.1 h1, fun q hq hn => (h2 q (Nat.lt_of_lt_of_le hq hZ.2.2.1)).trans (hZ.2.2.2.1 q hq hn)⟩) hZ.2.2.2.2 hc hs
  exact hZ.1.kept (fun k q hk => h2 q.1 (vx_lt hZ.1 hk))
theorem zthrowW (hC : zC p m c cc nL s args own D cy) (hZ : zH D A s.heap n ad F H locs) (hl9 : l.stackTraces = false) (hXs : zXs A sa s) {cls text : String} {ik is ic sa0 : Nat} (hw : zThr own ik ic cls) (hstr : vk_R own is text sa0 s) (hsize : ls.size = nL)
    (d0 : decode cc pc = .ok (.new ik, 3)) (d3 : decode cc (pc + 3) = .ok (.dup, 1)) (d4 : decode cc (pc + 4) = .ok (.ldc_w is, 3)) (d7 : decode cc (pc + 7) = .ok (.invokespecial ic, 3)) (d10 : decode cc (pc + 10) = .ok (.athrow, 1)) (hout : ∀ x ∈ c.exceptionTable.toList, False)
    (hR1 : 5 < R.frames) (hR2 : (rest.map fun v => v.category).sum + 82 ≤ R.locals) (hR3 : cells + 1 ≤ R.cells) (hR4 : slots + 6 ≤ R.slots) (hlocks : meth.locks = false) {Qc : Array Value → State → Outcome → State → Prop} {px : Unit → Prop} {nm : String} (hnm : cls = nm) (hpx : px ()) {mc ms : Nat} (hc : cells + 1 ≤ mc) (hs : slots + 6 ≤ ms) :
    W p l e R s m args below meth c H locs cells slots (vx_MQ below Qc (vx_X px (fun E _ t => E = nm ∧ zB D n ad F t) A) args s mc ms A) (F0 m pc ls rest) := by
  obtain ⟨⟨hx, hb, hml, hown, hts⟩, hK, hNN⟩ := hC
  obtain ⟨f1, f2, f3, f4, f5, f6⟩ := hw
  obtain ⟨x1, x2, x3, x4, x5⟩ := hXs
  have hat : ∀ w ∈ vx_atS own ic cls nmsX, w.before args s = true := by
    intro w hw
    by_cases g : goodWord w = true
    · exact hts _ (List.mem_filter.mpr ⟨f4 w (List.mem_filter.mpr ⟨hw, g⟩), g⟩)
    · have h9 := f5 w (List.mem_filter.mpr ⟨hw, by cases hg : goodWord w; rfl; exact absurd hg g⟩)
      exact va_any (nestX_on h9.2) (x1 w h9.1 h9.2)
  refine vx_throwSW (names := nmsX) (A := A) hx hb hl9 hown f1 (by decide +kernel) (hts _ f2) (hts _ f3) hstr hat (fun w hw => List.all_eq_true.mp f6 w hw) x4 x5 hZ.2.2 (hsize.trans hml.symm) d0 d3 d4 d7 d10 (fun x h => (hout x h).elim) hR1 hR2 hR3 hR4 hlocks (fun t _ h1 h2 => ⟨(), hpx, ⟨hnm, ?_⟩, Nat.le_trans hZ.2.2.1 h1, fun q hq hn => (h2 q (Nat.lt_of_lt_of_le hq hZ.2.2.1)).trans (hZ.2.2.2.1 q hq hn)⟩) hZ.2.2.2.2 hc hs
  exact hZ.1.kept (fun k q hk => h2 q.1 (vx_lt hZ.1 hk))
theorem zcSW {y : MethodName} {b : ByteArray} {nl na j mc ms : Nat} {ret : Option FieldType} {hh : List (Nat × Nat × Nat × Nat)} {index : Nat} (hts : ∀ w ∈ gtbl, w.before args s = true) (hmd : zMdH y b nl ret hh na) (hst : Cond.static y ∈ gtbl) (hlk : Cond.methodLink own index y ∈ gtbl) (hR : zRj R j) :
    vx_CSW R s args own index y b nl ret hh (zwH y b nl ret hh) (rmC j mc ms) mc ms na := by
  obtain ⟨h1, h2, h3, h4⟩ := hmd
  exact ⟨⟨rfl, rfl, hR.1, by have := hR.2; show 8 + (nl + 11) + 32 * j ≤ _; omega, pay_in hts (gt_GoodInH h2), List.mem_cons_self⟩, hts _ h2, hts _ h3, ⟨h1.1, h1.2.1⟩, fun sig h => by have h2 := h1.2.2; rw [h] at h2; exact (Option.some.inj h2).symm, hts _ hlk, hts _ hst⟩
theorem zrunXV (hC : zC p m c cc nL s args own D cy) (hZ : zH D A s.heap n ad F H locs) (hA : ∀ q, s.heap.size ≤ q → A q) (hXs : zXs A sa s) {y : MethodName} {b : ByteArray} {nl na j k index mc ms : Nat} {ret : Option FieldType} {As : List Value} {Qc : Array Value → State → Outcome → State → Prop} {XC : String → State → State → Prop} {free : Addr → Prop} {st0 : List Value}
    (hM : vx_Met l y (zw y b nl ret) (rmC j mc ms) (zPcX D cy n ad F H.size sa (.ref (ad k) :: As)) Qc XC mc ms free) (hmd : zMd y b nl ret na) (hmi : zMi y) (hlk : Cond.methodLink own index y ∈ gtbl) (hR : zRj R j) (hk : k < n) {ci : Nat} {fs : List Value} (hF : F k = .inr (ci, fs)) {T : u_T} {N : Nat} (hc : vwCl[ci]? = some (y.cls, T, N))
    (hn : As.length = na) (hsize : ls.size = nL) (hst : st0 = As.reverse ++ .ref (ad k) :: rest) (hW : (rest.map fun v => v.category).sum ≤ 8) (hd : decode cc pc = .ok (.invokevirtual index, 3)) (hf : cells + mc ≤ R.cells ∧ slots + ms ≤ R.slots) :
    vx_Run p l e R s m args below meth c H locs cells slots mc ms (F0 m pc ls st0) rest (Qc (Value.ref (ad k) :: As).toArray) XC free := by
  have hts := hC.1.2.2.2.2
  exact vx_runV hC.1 hM ⟨zcBC hts hmd hlk hR, hts _ hmi.1, hts _ hmi.2⟩ ⟨zPcX.blind, va_recv hC.2.1 hZ.1 (q0 := k) hc (by rw [zW_get hk, hF]), zpreX hC hZ hA hXs⟩ rfl hn hsize hst (lv_room hW) hd hf
theorem zrunMV (hC : zC p m c cc nL s args own D cy) (hZ : zH D A s.heap n ad F H locs) (hA : ∀ q, s.heap.size ≤ q → A q) (hXs : zXs A sa s) {y : MethodName} {b : ByteArray} {nl na j k index mc ms : Nat} {ret : Option FieldType} {As : List Value} {Qc : Array Value → State → Outcome → State → Prop} {free : Addr → Prop} {st0 : List Value}
    (hM : Met l y (zw y b nl ret) (rmC j mc ms) (zPcX D cy n ad F H.size sa (.ref (ad k) :: As)) Qc mc ms free) (hmd : zMd y b nl ret na) (hmi : zMi y) (hlk : Cond.methodLink own index y ∈ gtbl) (hR : zRj R j) (hk : k < n) {ci : Nat} {fs : List Value} (hF : F k = .inr (ci, fs)) {T : u_T} {N : Nat} (hc : vwCl[ci]? = some (y.cls, T, N))
    (hn : As.length = na) (hsize : ls.size = nL) (hst : st0 = As.reverse ++ .ref (ad k) :: rest) (hW : (rest.map fun v => v.category).sum ≤ 8) (hd : decode cc pc = .ok (.invokevirtual index, 3)) (hf : cells + mc ≤ R.cells ∧ slots + ms ≤ R.slots) :
    va_Run p l e R s m args below meth c H locs cells slots mc ms (F0 m pc ls st0) rest (Qc (Value.ref (ad k) :: As).toArray) free := by
  have hts := hC.1.2.2.2.2
  exact va_runV hC.1 hM ⟨zcBC hts hmd hlk hR, hts _ hmi.1, hts _ hmi.2⟩ ⟨zPcX.blind, va_recv hC.2.1 hZ.1 (q0 := k) hc (by rw [zW_get hk, hF]), zpreX hC hZ hA hXs⟩ rfl hn hsize hst (lv_room hW) hd hf
theorem zrunSX (hC : zC p m c cc nL s args own D cy) (hZ : zH D A s.heap n ad F H locs) (hA : ∀ q, s.heap.size ≤ q → A q) (hXs : zXs A sa s) {y : MethodName} {b : ByteArray} {nl na j index mc ms : Nat} {ret : Option FieldType} {hh : List (Nat × Nat × Nat × Nat)} {As : List Value} {Qc : Array Value → State → Outcome → State → Prop} {XC : String → State → State → Prop} {free : Addr → Prop} {st0 : List Value}
    (hM : vx_Met l y (zwH y b nl ret hh) (rmC j mc ms) (zPcX D cy n ad F H.size sa As) Qc XC mc ms free) (hmd : zMdH y b nl ret hh na) (hms : Cond.static y ∈ gtbl) (hlk : Cond.methodLink own index y ∈ gtbl) (hR : zRj R j)
    (hn : As.length = na) (hsize : ls.size = nL) (hst : st0 = As.reverse ++ rest) (hW : (rest.map fun v => v.category).sum ≤ 8) (hd : decode cc pc = .ok (.invokestatic index, 3)) (hf : cells + mc ≤ R.cells ∧ slots + ms ≤ R.slots) :
    vx_Run p l e R s m args below meth c H locs cells slots mc ms (F0 m pc ls st0) rest (Qc As.toArray) XC free :=
  vx_runSX hC.1 hM (zcSW hC.1.2.2.2.2 hmd hms hlk hR) ⟨zPcX.blind, zpreX hC hZ hA hXs⟩ rfl hn hsize hst (lv_room hW) hd hf
/-- behind a call that may throw nm: the world is there either way -/
theorem zgovX (hZ : zH D A H0 n ad F H locs) (hA : ∀ q, H0.size ≤ q → A q) {st0 : List Value} {a : Array Value} {mc ms : Nat} {φ : (Nat → va_E) → Prop} {px : Unit → Prop} {nm : String}
    (hr : vx_Run p l e R s m args below meth c H locs cells slots mc ms (F0 m pc ls st0) rest (va_Qv φ (zB D n ad) (zA n ad H.size) a) (vx_X px (fun E _ t => E = nm ∧ zB D n ad F t) (zA n ad H.size)) (zA n ad H.size))
    (kx : px () → ∀ (ce : Cell) (q9 : Nat) (H1 : Heap) (locs1 : List Loc), zH D A H0 n ad F H1 locs1 → H1[q9]? = some ce → ce.vm = .none → s.vm.findClass nm = some ce.cls → vx_W p l e R s m args below meth c H1 locs1 (cells + mc) (slots + ms) Q (F0 m pc ls rest) q9)
    (kk : ∀ (F1 : Nat → va_E), φ F1 → ∀ (H1 : Heap) (locs1 : List Loc), zH D A H0 n ad F1 H1 locs1 → W p l e R s m args below meth c H1 locs1 (cells + mc) (slots + ms) Q (F0 m (pc + 3) ls rest)) : W p l e R s m args below meth c H locs cells slots Q (F0 m pc ls st0) :=
  vx_callv hr hZ.2.2 (fun q _ h => zA_sub hZ.2.1 (fun q h => hA q (Nat.le_trans hZ.2.2.1 h)) q h) (fun q h => zA_sub hZ.2.1 (fun q h => hA q (Nat.le_trans hZ.2.2.1 h)) q h) (fun q _ h => zA_sub hZ.2.1 (fun q h => hA q (Nat.le_trans hZ.2.2.1 h)) q h)
    (fun E ce q9 u t H1 locs1 ht _ hp hb _ _ hS h7 h8 h9 => kx hp ce q9 H1 locs1 ⟨by rw [← ht]; exact hb.2, zD_chg hZ.2.1, hS⟩ h7 h8 (by rw [← hb.1]; exact h9))
    (fun u t H1 locs1 ht _ hp hb _ _ hS => kk u hp H1 locs1 ⟨by rw [← ht]; exact hb, zD_chg hZ.2.1, hS⟩)
theorem zgolX (hZ : zH D A H0 n ad F H locs) (hA : ∀ q, H0.size ≤ q → A q) {st0 : List Value} {a : Array Value} {mc ms : Nat} {φ : Int64 → (Nat → va_E) → Prop} {px : Unit → Prop} {nm : String}
    (hr : vx_Run p l e R s m args below meth c H locs cells slots mc ms (F0 m pc ls st0) rest (va_Ql φ (zB D n ad) (zA n ad H.size) a) (vx_X px (fun E _ t => E = nm ∧ zB D n ad F t) (zA n ad H.size)) (zA n ad H.size))
    (kx : px () → ∀ (ce : Cell) (q9 : Nat) (H1 : Heap) (locs1 : List Loc), zH D A H0 n ad F H1 locs1 → H1[q9]? = some ce → ce.vm = .none → s.vm.findClass nm = some ce.cls → vx_W p l e R s m args below meth c H1 locs1 (cells + mc) (slots + ms) Q (F0 m pc ls rest) q9)
    (kk : ∀ (r : Int64) (F1 : Nat → va_E), φ r F1 → ∀ (H1 : Heap) (locs1 : List Loc), zH D A H0 n ad F1 H1 locs1 → W p l e R s m args below meth c H1 locs1 (cells + mc) (slots + ms) Q (F0 m (pc + 3) ls (.long r :: rest))) : W p l e R s m args below meth c H locs cells slots Q (F0 m pc ls st0) :=
  vx_calll hr hZ.2.2 (fun q _ h => zA_sub hZ.2.1 (fun q h => hA q (Nat.le_trans hZ.2.2.1 h)) q h) (fun q h => zA_sub hZ.2.1 (fun q h => hA q (Nat.le_trans hZ.2.2.1 h)) q h) (fun q _ h => zA_sub hZ.2.1 (fun q h => hA q (Nat.le_trans hZ.2.2.1 h)) q h)
    (fun E ce q9 u t H1 locs1 ht _ hp hb _ _ hS h7 h8 h9 => kx hp ce q9 H1 locs1 ⟨by rw [← ht]; exact hb.2, zD_chg hZ.2.1, hS⟩ h7 h8 (by rw [← hb.1]; exact h9))
    (fun r u t H1 locs1 ht _ hp hb _ _ hS => kk r u hp H1 locs1 ⟨by rw [← ht]; exact hb, zD_chg hZ.2.1, hS⟩)
/-- behind a static call with a table that throws nothing -/
theorem zgoiX (hZ : zH D A H0 n ad F H locs) (hA : ∀ q, H0.size ≤ q → A q) {st0 : List Value} {a : Array Value} {mc ms : Nat} {φ : Int32 → (Nat → va_E) → Prop}
    (hr : vx_Run p l e R s m args below meth c H locs cells slots mc ms (F0 m pc ls st0) rest (va_Qi φ (zB D n ad) (zA n ad H.size) a) (vx_X (fun _ : Unit => False) (fun _ _ _ => False) (zA n ad H.size)) (zA n ad H.size))
    (kk : ∀ (r : Int32) (F1 : Nat → va_E), φ r F1 → ∀ (H1 : Heap) (locs1 : List Loc), zH D A H0 n ad F1 H1 locs1 → W p l e R s m args below meth c H1 locs1 (cells + mc) (slots + ms) Q (F0 m (pc + 3) ls (.int r :: rest))) : W p l e R s m args below meth c H locs cells slots Q (F0 m pc ls st0) :=
  vx_calli hr hZ.2.2 (fun q _ h => zA_sub hZ.2.1 (fun q h => hA q (Nat.le_trans hZ.2.2.1 h)) q h) (fun q h => zA_sub hZ.2.1 (fun q h => hA q (Nat.le_trans hZ.2.2.1 h)) q h) (fun q _ h => zA_sub hZ.2.1 (fun q h => hA q (Nat.le_trans hZ.2.2.1 h)) q h)
    (fun E ce q9 u t H1 locs1 ht _ hp => hp.elim)
    (fun r u t H1 locs1 ht _ hp hb _ _ hS => kk r u hp H1 locs1 ⟨by rw [← ht]; exact hb, zD_chg hZ.2.1, hS⟩)
theorem zgoiC (hZ : zH D A H0 n ad F H locs) (hA : ∀ q, H0.size ≤ q → A q) {st0 : List Value} {a : Array Value} {mc ms : Nat} {φ : Int32 → (Nat → va_E) → Prop}
    (hr : va_Run p l e R s m args below meth c H locs cells slots mc ms (F0 m pc ls st0) rest (va_Qi φ (zB D n ad) (zA n ad H.size) a) (zA n ad H.size))
    (kk : ∀ (r : Int32) (F1 : Nat → va_E), φ r F1 → ∀ (H1 : Heap) (locs1 : List Loc), zH D A H0 n ad F1 H1 locs1 → W p l e R s m args below meth c H1 locs1 (cells + mc) (slots + ms) Q (F0 m (pc + 3) ls (.int r :: rest))) : W p l e R s m args below meth c H locs cells slots Q (F0 m pc ls st0) :=
  va_calli hr hZ.2.2 (fun q _ h => zA_sub hZ.2.1 (fun q h => hA q (Nat.le_trans hZ.2.2.1 h)) q h) (fun q h => zA_sub hZ.2.1 (fun q h => hA q (Nat.le_trans hZ.2.2.1 h)) q h)
    (fun r u t H1 locs1 ht _ hp hb _ _ hS => kk r u hp H1 locs1 ⟨by rw [← ht]; exact hb, zD_chg hZ.2.1, hS⟩)
theorem zcatch (hC : zC p m c cc nL s args own D cy) (hNX : zNX s) {name E : String} {ce : Cell} {q : Addr} (pre : List ExceptionTableEntry) (x : ExceptionTableEntry) (suf : List ExceptionTableEntry) (hsplit : c.exceptionTable.toList = pre ++ x :: suf)
    (hpass : ∀ z ∈ pre, ∃ nm : String, z.catchType ≠ 0 ∧ Cond.classLink own z.catchType nm ∈ gtbl ∧ va_Nc E nm s) (hx : covers x pc = true) (h0 : x.catchType ≠ 0) (hlink : Cond.classLink own x.catchType name ∈ gtbl) (hcast : Cond.castable E name ∈ lw_tbl) (hcell : H[q]? = some ce) (hv : ce.vm = .none) (hcl : s.vm.findClass E = some ce.cls)
    (kk : W p l e R s m args below meth c H locs cells slots Q (F0 m x.handlerPc ls [.ref q])) : vx_W p l e R s m args below meth c H locs cells slots Q (F0 m pc ls rest) q := by
  have hts := hC.1.2.2.2.2
  refine vx_catch hC.1.2.2.2.1 pre x suf hsplit (fun z hz => ?_) hx h0 (hts _ hlink) (va_any rfl (hNX _ hcast rfl)) hcell hv hcl kk
  obtain ⟨nm, a1, a2, a3⟩ := hpass z hz
  exact Or.inr ⟨a1, nm, hts _ a2, a3⟩
end ZXR
def sFailE (t : Tal) : String := if t.1 = 2 then sIAE else if t.1 = 7 then sUOE else sISE
def sElE (sh : Nat → Shf) (d i : Int32) : String := if sElT sh d i = 1 then sIAE else sISE
