/-! ===== making: objects and arrays ===== -/
theorem zW_ad {n : Nat} {ad ad1 : Nat → Nat} {F : Nat → va_E} (h : ∀ j, j < n → ad1 j = ad j) : zW n ad1 F = zW n ad F := by
  unfold zW
  apply List.map_congr_left
  intro k hk
  rw [h k (List.mem_range.mp hk)]
def rmC (k mc ms : Nat) : Room := { frames := k, cells := mc, slots := ms, locals := 32 * k }
def zNew (own : String) (index ci N : Nat) (fs : List Value) : Prop := ∃ (C : String) (T : u_T) (ty : Nat → FieldType), vwCl[ci]? = some (C, T, N) ∧ (∀ w ∈ u_ws C T N, w ∈ gtbl) ∧ (∀ k, k < N → parseFieldDescriptor (T k).2.2.1 = some (ty k)) ∧ Cond.classLink own index C ∈ gtbl ∧ Cond.instantiable C N ∈ gtbl ∧ Cond.initialized C ∈ gtbl ∧ ∀ j, j < N → defaultValue (ty j) = vp_V fs j
theorem zRA_nm {U : State} {cA : ClassId} {ty : FieldType} (h : va_RA U cA ty) : U.vm.findClass ("[" ++ ty.toString) = some cA := by
  cases ty with
  | object C => obtain ⟨_, _, _, _, _, h⟩ := h; exact h
  | _ => exact h
theorem zcy {D : va_G} {cy : Nat → Nat} {U : State} (hK : va_K D vwCl (zT cy) U) {k : Nat} {cA : ClassId} {ty : FieldType} (hk : (zT cy)[k]? = some (cy k, ty)) (h : va_RA U cA ty) : cA = cy k := by
  have h0 := zRA_nm (hK.2 k _ hk).2
  have h1 := zRA_nm h
  exact Option.some.inj (h1.symm.trans h0)
def zBN (D : va_G) (n : Nat) (A : Nat → Prop) (u : (Nat → Nat) × (Nat → va_E)) (t : State) : Prop := va_P D vwCl (zW n u.1 u.2) t.heap ∧ va_D A (zW n u.1 u.2)
section ZMK
variable {p : Program} {l : Launch} {e : Env} {R : Room} {s : State} {m : MethodId} {args : Array Value} {below : List Frame} {meth : Method} {c : Code} {H : Heap} {locs : List Loc} {cells slots : Nat} {Q : State → Prop}
variable {cc : ByteArray} {nL pc : Nat} {ls : Array Slot} {rest : List Value} {D : va_G} {cy : Nat → Nat} {A : Nat → Prop} {H0 : Heap} {own : String} {n : Nat} {ad : Nat → Nat} {F : Nat → va_E}
theorem znew (hC : zC p m c cc nL s args own D cy) (hZ : zH D A H0 n ad F H locs) (hA : ∀ q, H0.size ≤ q → A q) {index ci N : Nat} {fs : List Value} (hn : zNew own index ci N fs) (hcells : cells + 1 ≤ R.cells) (hslots : slots + N ≤ R.slots) (hd : decode cc pc = .ok (.new index, 3))
    (kk : ∀ (ad1 : Nat → Nat) (F1 : Nat → va_E), (∀ j, j < n → ad1 j = ad j) → F1 = va_up F n (.inr (ci, fs)) → ∀ (H1 : Heap), zH D A H0 (n + 1) ad1 F1 H1 locs → W p l e R s m args below meth c H1 locs (cells + 1) (slots + N) Q (F0 m (pc + 3) ls (.ref (ad1 n) :: rest))) : W p l e R s m args below meth c H locs cells slots Q (F0 m pc ls rest) := by
  obtain ⟨⟨hx, hb, hml, hown, hts⟩, hK, hN⟩ := hC
  obtain ⟨C, T, ty, hc, hin, hty, h1, h2, h3, hfs⟩ := hn
  refine va_new hx hb hts hin ty hty hown (hts _ h1) (hts _ h2) (hts _ h3) hK hZ.1 hZ.2.1 hZ.2.2 hA hc hfs hcells hslots hd (fun q H1 a1 a2 a3 => ?_)
  rw [zW_push] at a1 a2
  have k := kk (va_up ad n q) _ (fun j hj => va_up_ne _ _ (by omega)) rfl H1 ⟨a1, a2, a3⟩
  rw [va_up_self] at k
  exact k
theorem znewi (hC : zC p m c cc nL s args own D cy) (hZ : zH D A H0 n ad F H locs) (hA : ∀ q, H0.size ≤ q → A q) {N : Nat} {v : Int32} (hw : Cond.arrayClass .int ∈ gtbl) (hv : ¬ v < 0) (hN : v.toNatClampNeg = N) (hbytes : N * 4 ≤ 536870912) (hcells : cells + 1 ≤ R.cells) (hslots : slots + N ≤ R.slots) (hd : decode cc pc = .ok (.newarray .int, 2))
    (kk : ∀ (ad1 : Nat → Nat) (F1 : Nat → va_E), (∀ j, j < n → ad1 j = ad j) → F1 = va_up F n (oInts cy N (fun _ => 0)) → ∀ (H1 : Heap), zH D A H0 (n + 1) ad1 F1 H1 locs → W p l e R s m args below meth c H1 locs (cells + 1) (slots + N) Q (F0 m (pc + 2) ls (.ref (ad1 n) :: rest))) : W p l e R s m args below meth c H locs cells slots Q (F0 m pc ls (.int v :: rest)) := by
  obtain ⟨⟨hx, hb, hml, hown, hts⟩, hK, hNN⟩ := hC
  refine va_newa (atype := .int) (ty := .int) (a0 := (N, .inl (fun _ => 0))) hx hb (hts _ hw) rfl hK hZ.1 hZ.2.1 hZ.2.2 hA (fun _ => rfl) hv hN hbytes hcells hslots hd (fun q cA H1 b1 a1 a2 a3 => ?_)
  have e0 : cA = cy 0 := zcy hK (k := 0) (ty := .int) rfl (b1.2 4 (cA, .int) rfl).2
  rw [e0, zW_push] at a1 a2
  have k := kk (va_up ad n q) _ (fun j hj => va_up_ne _ _ (by omega)) rfl H1 ⟨a1, a2, a3⟩
  rw [va_up_self] at k
  exact k
theorem znewl (hC : zC p m c cc nL s args own D cy) (hZ : zH D A H0 n ad F H locs) (hA : ∀ q, H0.size ≤ q → A q) {N : Nat} {v : Int32} (hw : Cond.arrayClass .long ∈ gtbl) (hv : ¬ v < 0) (hN : v.toNatClampNeg = N) (hbytes : N * 8 ≤ 536870912) (hcells : cells + 1 ≤ R.cells) (hslots : slots + N ≤ R.slots) (hd : decode cc pc = .ok (.newarray .long, 2))
    (kk : ∀ (ad1 : Nat → Nat) (F1 : Nat → va_E), (∀ j, j < n → ad1 j = ad j) → F1 = va_up F n (oLongs cy N (fun _ => 0)) → ∀ (H1 : Heap), zH D A H0 (n + 1) ad1 F1 H1 locs → W p l e R s m args below meth c H1 locs (cells + 1) (slots + N) Q (F0 m (pc + 2) ls (.ref (ad1 n) :: rest))) : W p l e R s m args below meth c H locs cells slots Q (F0 m pc ls (.int v :: rest)) := by
  obtain ⟨⟨hx, hb, hml, hown, hts⟩, hK, hNN⟩ := hC
  refine va_newa (atype := .long) (ty := .long) (a0 := (N, .inr (.inl (fun _ => 0)))) hx hb (hts _ hw) rfl hK hZ.1 hZ.2.1 hZ.2.2 hA (fun _ => rfl) hv hN hbytes hcells hslots hd (fun q cA H1 b1 a1 a2 a3 => ?_)
  have e0 : cA = cy 1 := zcy hK (k := 1) (ty := .long) rfl (b1.2 4 (cA, .long) rfl).2
  rw [e0, zW_push] at a1 a2
  have k := kk (va_up ad n q) _ (fun j hj => va_up_ne _ _ (by omega)) rfl H1 ⟨a1, a2, a3⟩
  rw [va_up_self] at k
  exact k
theorem znewq (hC : zC p m c cc nL s args own D cy) (hZ : zH D A H0 n ad F H locs) (hA : ∀ q, H0.size ≤ q → A q) {index N t : Nat} {C : String} {v : Int32} (ht : (zT cy)[t]? = some (cy t, .object C)) (hl : Cond.classLink own index C ∈ gtbl) (hov : Cond.arrayOver (.object C) ∈ lw_tbl) (hv : ¬ v < 0) (hN : v.toNatClampNeg = N) (hbytes : N * 4 ≤ 536870912) (hcells : cells + 1 ≤ R.cells) (hslots : slots + N ≤ R.slots) (hd : decode cc pc = .ok (.anewarray index, 3))
    (kk : ∀ (ad1 : Nat → Nat) (F1 : Nat → va_E), (∀ j, j < n → ad1 j = ad j) → F1 = va_up F n (oRefs cy t N (fun _ => none)) → ∀ (H1 : Heap), zH D A H0 (n + 1) ad1 F1 H1 locs → W p l e R s m args below meth c H1 locs (cells + 1) (slots + N) Q (F0 m (pc + 3) ls (.ref (ad1 n) :: rest))) : W p l e R s m args below meth c H locs cells slots Q (F0 m pc ls (.int v :: rest)) := by
  obtain ⟨⟨hx, hb, hml, hown, hts⟩, hK, hNN⟩ := hC
  refine va_newq hx hb hown (hts _ hl) (va_AO.of (A := #[]) (hNN _ hov rfl)) hK hZ.1 hZ.2.1 hZ.2.2 hA hv hN hbytes hcells hslots hd (fun q cA H1 b1 a1 a2 a3 => ?_)
  have e0 : cA = cy t := zcy hK (k := t) ht (b1.2 4 (cA, .object C) rfl).2
  rw [e0, zW_push] at a1 a2
  have k := kk (va_up ad n q) _ (fun j hj => va_up_ne _ _ (by omega)) rfl H1 ⟨a1, a2, a3⟩
  rw [va_up_self] at k
  exact k
theorem zastq (hC : zC p m c cc nL s args own D cy) (hZ : zH D A H0 n ad F H locs) {k j N t ci : Nat} {a v : Nat} (ha : ad k = a) (hv : ad j = v) (hk : k < n) (hj : j < n) {f : Nat → Option Nat} (hF : F k = oRefs cy t N f) {C : String} {T : u_T} {N0 : Nat} (ht : (zT cy)[t]? = some (cy t, .object C)) {vs : List Value} (hFj : F j = .inr (ci, vs)) (hc : vwCl[ci]? = some (C, T, N0)) {i : Int32} {x : Nat} (hi : i = nI x) (hx : x < N) (hN : N < 2 ^ 31) (hd : decode cc pc = .ok (.aastore, 1))
    (kk : ∀ (F1 : Nat → va_E), F1 = va_up F k (oRefs cy t N (va_up f x (some v))) → ∀ (H1 : Heap) (locs1 : List Loc), zH D A H0 n ad F1 H1 locs1 → W p l e R s m args below meth c H1 locs1 cells slots Q (F0 m (pc + 1) ls rest)) : W p l e R s m args below meth c H locs cells slots Q (F0 m pc ls (.ref v :: .int i :: .ref a :: rest)) := by
  obtain ⟨⟨hx0, hb, hml, hown, hts⟩, hK, hNN⟩ := hC
  subst hi; subst ha; subst hv
  have he : (zW n ad F)[k]? = some (ad k, oRefs cy t N f) := by rw [zW_get hk, hF]
  have hej : (zW n ad F)[j]? = some (ad j, .inr (ci, vs)) := by rw [zW_get hj, hFj]
  refine va_astq (r := (C, T, N0)) hx0 hb hK hZ.1 hZ.2.1 hZ.2.2 k t j ci he ht hej hc (vp_in_nI hx hN) hd (fun H1 locs1 h1 h2 h3 => ?_)
  rw [zW_set hk, nI_clamp (Nat.lt_trans hx hN)] at h1 h2
  exact kk _ rfl H1 locs1 ⟨h1, h2, h3⟩
theorem zgetA {a : Nat} {index ci j k : Nat} (ha : ad k = a) (hC : zC p m c cc nL s args own D cy) (hZ : zH D A H0 n ad F H locs) (hf : zFld own index ci j) (hk : k < n) {fs : List Value} (hF : F k = .inr (ci, fs)) {v : Value} (hv : fs[j]? = some v) (hd : decode cc pc = .ok (.getfield index, 3))
    (kk : W p l e R s m args below meth c H locs cells slots Q (F0 m (pc + 3) ls (v :: rest))) : W p l e R s m args below meth c H locs cells slots Q (F0 m pc ls (.ref a :: rest)) := by
  subst ha; exact zget hC hZ hf hk hF hv hd kk
theorem zputA {a : Nat} {index ci j k : Nat} (ha : ad k = a) (hC : zC p m c cc nL s args own D cy) (hZ : zH D A H0 n ad F H locs) {ty : FieldType} (hf : zFldP own index ci j false ty) (hk : k < n) {fs : List Value} (hF : F k = .inr (ci, fs)) {v : Value} {E : va_E} (hE : (.inr (ci, fs.set j v) : va_E) = E) (hn : narrow ty v = v) (hfit : fits ty v = true) (hl : j < fs.length) (hd : decode cc pc = .ok (.putfield index, 3))
    (kk : ∀ (F1 : Nat → va_E), F1 = va_up F k E → ∀ (H1 : Heap) (locs1 : List Loc), zH D A H0 n ad F1 H1 locs1 → W p l e R s m args below meth c H1 locs1 cells slots Q (F0 m (pc + 3) ls rest)) : W p l e R s m args below meth c H locs cells slots Q (F0 m pc ls (v :: .ref a :: rest)) := by
  subst ha; exact zput hC hZ hf hk hF hE hn hfit hl hd kk
theorem zputFA {a : Nat} {index ci j k : Nat} (ha : ad k = a) (hC : zC p m c cc nL s args own D cy) (hZ : zH D A H0 n ad F H locs) (hin2 : meth.name = "<init>") {ty : FieldType} (hf : zFldP own index ci j true ty) (hk : k < n) {fs : List Value} (hF : F k = .inr (ci, fs)) {v : Value} {E : va_E} (hE : (.inr (ci, fs.set j v) : va_E) = E) (hn : narrow ty v = v) (hfit : fits ty v = true) (hl : j < fs.length) (hd : decode cc pc = .ok (.putfield index, 3))
    (kk : ∀ (F1 : Nat → va_E), F1 = va_up F k E → ∀ (H1 : Heap) (locs1 : List Loc), zH D A H0 n ad F1 H1 locs1 → W p l e R s m args below meth c H1 locs1 cells slots Q (F0 m (pc + 3) ls rest)) : W p l e R s m args below meth c H locs cells slots Q (F0 m pc ls (v :: .ref a :: rest)) := by
  subst ha; exact zputF hC hZ hin2 hf hk hF hE hn hfit hl hd kk
/-- another writing of an array of references -/
theorem zrefs (hZ : zH D A H0 n ad F H locs) {k N t : Nat} (hk : k < n) {f f' : Nat → Option Nat} (hF : F k = oRefs cy t N f) (hf : ∀ i, i < N → f' i = f i) : zH D A H0 n ad (va_up F k (oRefs cy t N f')) H locs := by
  refine ⟨fun j q hq => ?_, zD_chg hZ.2.1, hZ.2.2⟩
  obtain ⟨hj, rfl⟩ := zW_getI hq
  have h0 := hZ.1 j _ (zW_get hj)
  by_cases e : j = k
  · subst e
    rw [va_up_self]
    rw [hF] at h0
    have h1 : H[ad j]? = some (vp_cell (cy t) (N, .inr (.inr (.inr (.inr f))))) := h0
    show H[ad j]? = some (vp_cell (cy t) (N, .inr (.inr (.inr (.inr f')))))
    rw [h1, vp_cell_q, vp_cell_q]
    congr 1
    unfold arrV
    congr 2
    funext i
    show va_rf (f i.val) = va_rf (f' i.val)
    rw [hf i.val i.isLt]
  · rw [va_up_ne _ _ e]; exact h0
def zInit (own : String) (index : Nat) (y : MethodName) (b : ByteArray) (nl : Nat) : Prop := zMd y b nl none 0 ∧ y.name = "<init>" ∧ Cond.instanceMethod y ∈ gtbl ∧ zLk own index y
theorem zcBC {y : MethodName} {b : ByteArray} {nl na j mc ms : Nat} {ret : Option FieldType} {index : Nat} (hts : ∀ w ∈ gtbl, w.before args s = true) (hmd : zMd y b nl ret na) (hlk : Cond.methodLink own index y ∈ gtbl) (hR : zRj R j) :
    CallB R s args own index y b nl ret (zw y b nl ret) (rmC j mc ms) mc ms na := by
  obtain ⟨h1, h2, h3, h4⟩ := hmd
  exact callB_of na hts (gt_GoodIn h2) rfl rfl rfl (hts _ h3) (hts _ hlk) h1 ⟨hR.1, by have := hR.2; show 8 + (nl + 11) + 32 * j ≤ _; omega⟩
theorem zcNC {y : MethodName} {b : ByteArray} {nl na j mc ms : Nat} {ret : Option FieldType} {index : Nat} {host : String} (hts : ∀ w ∈ gtbl, w.before args s = true) (hN : zN s) (hmd : zMd y b nl ret na) (hlk : Cond.methodLinkNest own index y host ∈ lw_tbl) (hR : zRj R j) :
    va_CN R s args own index y host b nl ret (zw y b nl ret) (rmC j mc ms) mc ms na := by
  obtain ⟨h1, h2, h3, h4⟩ := hmd
  exact va_cnB na hts (gt_GoodIn h2) rfl rfl rfl (hN _ hlk rfl) (hts _ h3) h1 ⟨hR.1, by have := hR.2; show 8 + (nl + 11) + 32 * j ≤ _; omega⟩
theorem zrunI {a : Nat} {k : Nat} (ha : ad k = a) (hC : zC p m c cc nL s args own D cy) (hZ : zH D A H0 n ad F H locs) {y : MethodName} {b : ByteArray} {nl j index mc ms : Nat} {Qc : Array Value → State → Outcome → State → Prop} {free : Addr → Prop}
    (hM : Met l y (zw y b nl none) (rmC j mc ms) (zPc D cy n ad F H.size [.ref (ad k)]) Qc mc ms free) (hi : zInit own index y b nl) (hR : zRj R j) (hsize : ls.size = nL) (hW : (rest.map fun v => v.category).sum ≤ 8) (hd : decode cc pc = .ok (.invokespecial index, 3)) (hf : cells + mc ≤ R.cells ∧ slots + ms ≤ R.slots) :
    va_Run p l e R s m args below meth c H locs cells slots mc ms (F0 m pc ls (.ref a :: rest)) rest (Qc [Value.ref (ad k)].toArray) free := by
  subst ha
  have hPre : PreS s H (zPc D cy n ad F H.size [.ref (ad k)]) [.ref (ad k)] := ⟨zPc.blind, zpre hC hZ⟩
  have hts := hC.1.2.2.2.2
  obtain ⟨hmd, hy, hinst, hlk⟩ := hi
  rcases hlk with hlk | ⟨host, hlk⟩
  · exact va_runI (As := []) hC.1 hM ⟨zcBC hts hmd hlk hR, hy, hts _ hinst⟩ hPre rfl rfl hsize rfl (lv_room hW) hd hf
  · exact va_runIN (As := []) hC.1 hM ⟨zcNC hts hC.2.2 hmd hlk hR, hy, hts _ hinst⟩ hPre rfl rfl hsize rfl (lv_room hW) hd hf
theorem zgovC (hZ : zH D A H0 n ad F H locs) (hA : ∀ q, H0.size ≤ q → A q) {st0 : List Value} {a : Array Value} {mc ms : Nat} {φ : (Nat → va_E) → Prop}
    (hr : va_Run p l e R s m args below meth c H locs cells slots mc ms (F0 m pc ls st0) rest (va_Qv φ (zB D n ad) (zA n ad H.size) a) (zA n ad H.size))
    (kk : ∀ (F1 : Nat → va_E), φ F1 → ∀ (H1 : Heap) (locs1 : List Loc), zH D A H0 n ad F1 H1 locs1 → W p l e R s m args below meth c H1 locs1 (cells + mc) (slots + ms) Q (F0 m (pc + 3) ls rest)) : W p l e R s m args below meth c H locs cells slots Q (F0 m pc ls st0) :=
  va_callv hr hZ.2.2 (fun q _ h => zA_sub hZ.2.1 (fun q h => hA q (Nat.le_trans hZ.2.2.1 h)) q h) (fun q h => zA_sub hZ.2.1 (fun q h => hA q (Nat.le_trans hZ.2.2.1 h)) q h)
    (fun u t H1 locs1 ht _ hp hb _ _ hS => kk u hp H1 locs1 ⟨by rw [← ht]; exact hb, zD_chg hZ.2.1, hS⟩)
theorem zgovN (hZ : zH D A H0 n ad F H locs) (hA : ∀ q, H0.size ≤ q → A q) {st0 : List Value} {a : Array Value} {n1 mc ms : Nat} {φ : (Nat → Nat) × (Nat → va_E) → Prop}
    (hr : va_Run p l e R s m args below meth c H locs cells slots mc ms (F0 m pc ls st0) rest (va_Qv φ (zBN D n1 (zA n ad H.size)) (zA n ad H.size) a) (zA n ad H.size))
    (kk : ∀ (ad1 : Nat → Nat) (F1 : Nat → va_E), φ (ad1, F1) → ∀ (H1 : Heap) (locs1 : List Loc), zH D A H0 n1 ad1 F1 H1 locs1 → W p l e R s m args below meth c H1 locs1 (cells + mc) (slots + ms) Q (F0 m (pc + 3) ls rest)) : W p l e R s m args below meth c H locs cells slots Q (F0 m pc ls st0) :=
  va_callv hr hZ.2.2 (fun q _ h => zA_sub hZ.2.1 (fun q h => hA q (Nat.le_trans hZ.2.2.1 h)) q h) (fun q h => zA_sub hZ.2.1 (fun q h => hA q (Nat.le_trans hZ.2.2.1 h)) q h)
    (fun u t H1 locs1 ht _ hp hb _ _ hS => kk u.1 u.2 hp H1 locs1 ⟨by rw [← ht]; exact hb.1, ⟨hb.2.1, fun k q h => zA_sub hZ.2.1 (fun q h => hA q (Nat.le_trans hZ.2.2.1 h)) _ (hb.2.2 k q h)⟩, hS⟩)
theorem zvretN {A : Nat → Prop} (hC : zC p m c cc nL s args own D cy) (hZ : zH D A s.heap n ad F H locs) (hr : meth.sig.returnType = none) (hlocks : meth.locks = false) {φ : (Nat → Nat) × (Nat → va_E) → Prop} (hφ : φ (ad, F)) (hd : decode cc pc = .ok (.return_, 1)) :
    W p l e R s m args below meth c H locs cells slots (MQ below (va_Qv φ (zBN D n A) A) args s cells slots A) (F0 m pc ls []) :=
  W.vret hC.1.1 hC.1.2.1 hr (fun t ht _ => ⟨⟨(ad, F), rfl, hφ, by rw [ht]; exact hZ.1, hZ.2.1⟩, hZ.2.2.F ht⟩) hZ.2.2.2.2 hd hlocks
def zObj (own : String) (index : Nat) : Prop := Cond.methodLink own index Lib.objectInit ∈ gtbl ∧ Cond.instanceMethod Lib.objectInit ∈ gtbl ∧ Cond.code Lib.objectInit ⟨#[0xb1]⟩ 1 none ∈ gtbl
theorem zobj {a : Nat} {index : Nat} (hC : zC p m c cc nL s args own D cy) (ho : zObj own index) (hsize : ls.size = nL) (hR1 : 1 ≤ R.frames) (hR2 : (rest.map fun v => v.category).sum + 12 ≤ R.locals) (hd : decode cc pc = .ok (.invokespecial index, 3))
    (kk : W p l e R s m args below meth c H locs cells slots Q (F0 m (pc + 3) ls rest)) : W p l e R s m args below meth c H locs cells slots Q (F0 m pc ls (.ref a :: rest)) := by
  obtain ⟨⟨hx, hb, hml, hown, hts⟩, hK, hNN⟩ := hC
  refine W.objInit hx hb hown (hts _ ho.1) (hts _ ho.2.1) (hts _ ho.2.2) rfl (by rw [hml]; exact hsize) rfl hd hR1 ?_ kk
  show 2 * 0 + _ + 12 ≤ R.locals
  omega
end ZMK
