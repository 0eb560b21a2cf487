/-! ===== worlds of numbered cells: n cells, the k-th at ad k, holding F k ===== -/
def zW (n : Nat) (ad : Nat → Nat) (F : Nat → va_E) : va_W := (List.range n).map (fun k => (ad k, F k))
theorem zW_get {n k : Nat} {ad : Nat → Nat} {F : Nat → va_E} (h : k < n) : (zW n ad F)[k]? = some (ad k, F k) := by
  simp [zW, h]
theorem zW_getI {n k : Nat} {ad : Nat → Nat} {F : Nat → va_E} {q : Nat × va_E} (h : (zW n ad F)[k]? = some q) : k < n ∧ q = (ad k, F k) := by
  by_cases hk : k < n
  · rw [zW_get hk] at h
    exact ⟨hk, (Option.some.inj h).symm⟩
  · simp [zW, hk] at h
theorem zW_set {n k : Nat} {ad : Nat → Nat} {F : Nat → va_E} {e : va_E} (_ : k < n) : (zW n ad F).set k (ad k, e) = zW n ad (va_up F k e) := by
  apply List.ext_getElem?
  intro j
  rw [List.getElem?_set]
  by_cases hj : k = j
  · subst hj
    simp [zW, va_up, *]
  · have hj' : j ≠ k := fun h => hj h.symm
    simp only [hj, if_false, zW, List.getElem?_map, va_up, hj']
    cases hr : (List.range n)[j]? with
    | none => rfl
    | some q =>
      have : q = j := by
        have := List.getElem?_eq_some_iff.mp hr
        obtain ⟨h1, h2⟩ := this
        simpa using h2.symm
      subst this
      simp [hj']
theorem zW_push {n a : Nat} {ad : Nat → Nat} {F : Nat → va_E} {e : va_E} : zW n ad F ++ [(a, e)] = zW (n + 1) (va_up ad n a) (va_up F n e) := by
  unfold zW
  rw [List.range_succ, List.map_append]
  congr 1
  · apply List.map_congr_left
    intro k hk
    have : k ≠ n := Nat.ne_of_lt (List.mem_range.mp hk)
    simp [va_up, this]
  · simp [va_up]
def zA (n : Nat) (ad : Nat → Nat) (sz : Nat) : Nat → Prop := va_A (zW n ad (fun _ => .inr (0, []))) sz
theorem zA_eq {n sz : Nat} {ad : Nat → Nat} {F : Nat → va_E} : va_A (zW n ad F) sz = zA n ad sz := by
  funext q
  apply propext
  constructor
  · rintro (⟨k, e, h⟩ | h)
    · obtain ⟨h1, h2⟩ := zW_getI h
      cases h2
      exact Or.inl ⟨k, _, zW_get h1⟩
    · exact Or.inr h
  · rintro (⟨k, e, h⟩ | h)
    · obtain ⟨h1, h2⟩ := zW_getI h
      cases h2
      exact Or.inl ⟨k, _, zW_get h1⟩
    · exact Or.inr h
theorem zA_le {n sz q : Nat} {ad : Nat → Nat} (h : sz ≤ q) : zA n ad sz q := Or.inr h
theorem zD_chg {n : Nat} {ad : Nat → Nat} {F F' : Nat → va_E} {A : Nat → Prop} (h : va_D A (zW n ad F)) : va_D A (zW n ad F') := by
  refine ⟨fun i j p q hi hj e => ?_, fun k q hk => ?_⟩
  · obtain ⟨h1, rfl⟩ := zW_getI hi
    obtain ⟨h2, rfl⟩ := zW_getI hj
    exact h.1 i j _ _ (zW_get h1) (zW_get h2) e
  · obtain ⟨h1, rfl⟩ := zW_getI hk
    exact h.2 k (ad k, F k) (zW_get h1)
theorem zA_sub {n sz : Nat} {ad : Nat → Nat} {F : Nat → va_E} {A : Nat → Prop} (h : va_D A (zW n ad F)) (hA : ∀ q, sz ≤ q → A q) : ∀ q, zA n ad sz q → A q := by
  rintro q (⟨k, e, hk⟩ | h1)
  · obtain ⟨h1, h2⟩ := zW_getI hk
    cases h2
    exact h.2 k _ (zW_get h1)
  · exact hA q h1
/-! ===== words of nest mates and of arrays of objects ===== -/
def nestW : Cond → Bool
  | .fieldLinkNest .. => true
  | .methodLinkNest .. => true
  | .arrayOver (.object _) => true
  | _ => false
def zN (U : State) : Prop := ∀ w ∈ lw_tbl, nestW w = true → w.before #[] U = true
theorem zN.warm {s U : State} (hW : s.WarmedH U.vm) (h : zN s) : zN U := by
  intro w hw hn
  have hb := h w hw hn
  match w, hn with
  | .fieldLinkNest _ _ _ _ _ _, _ => exact va_Nw.warmF hW hb
  | .methodLinkNest _ _ _ _, _ => exact va_Nw.warmM hW hb
  | .arrayOver (.object C), _ => exact va_AO.moved hW.alike hb
theorem zN.same {s U : State} (hW : s.vm = U.vm) (h : zN s) : zN U := by
  intro w hw hn
  have hb := h w hw hn
  match w, hn with
  | .fieldLinkNest _ _ _ _ _ _, _ => exact va_Nw.same rfl hW hb
  | .methodLinkNest _ _ _ _, _ => exact va_Nw.same rfl hW hb
  | .arrayOver (.object C), _ => exact va_AO.moved (by rw [hW]; exact Vm.Alike.refl _) hb
/-! ===== what stands all the while, and the heap now ===== -/
def zT (cy : Nat → Nat) : List (ClassId × FieldType) := [(cy 0, .int), (cy 1, .long), (cy 2, .object RX3), (cy 3, .object RX4)]
def zC (p : Program) (m : MethodId) (c : Code) (cc : ByteArray) (nL : Nat) (s : State) (args : Array Value) (own : String) (D : va_G) (cy : Nat → Nat) : Prop :=
  CallFix p m c cc nL s args gtbl own ∧ va_K D vwCl (zT cy) s ∧ zN s
def zH (D : va_G) (A : Nat → Prop) (H0 : Heap) (n : Nat) (ad : Nat → Nat) (F : Nat → va_E) (H : Heap) (locs : List Loc) : Prop :=
  va_P D vwCl (zW n ad F) H ∧ va_D A (zW n ad F) ∧ va_S A H0 H locs
def zw (y : MethodName) (b : ByteArray) (nl : Nat) (ret : Option FieldType) : List Cond := Cond.code y b nl ret :: gtbl
def rmL (k : Nat) : Room := { frames := k, cells := 0, slots := 0, locals := 32 * k }
def zPc (D : va_G) (cy : Nat → Nat) (n : Nat) (ad : Nat → Nat) (F : Nat → va_E) (sz : Nat) (av : List Value) : Array Value → State → Prop :=
  va_Pc av (fun U => U.heap.size = sz ∧ va_P D vwCl (zW n ad F) U.heap ∧ va_K D vwCl (zT cy) U ∧ va_D (fun _ => True) (zW n ad F) ∧ zN U)
def zB (D : va_G) (n : Nat) (ad : Nat → Nat) (F' : Nat → va_E) (t : State) : Prop := va_P D vwCl (zW n ad F') t.heap
theorem zPc.blind {D : va_G} {cy : Nat → Nat} {n : Nat} {ad : Nat → Nat} {F : Nat → va_E} {sz : Nat} {av : List Value} : FrameBlind (zPc D cy n ad F sz av) := by
  rintro a U g mk ⟨h1, h2, h3, h4, h5, h6⟩
  exact ⟨h1, h2, h3, va_K.moved (u := U) (U := U.calling g mk a) (Vm.Alike.refl U.vm) h4, h5, zN.same (s := U) (U := U.calling g mk a) rfl h6⟩
section ZR
variable {p : Program} {l : Launch} {e : Env} {R : Room} {s : State} {m : MethodId} {args : Array Value} {below : List Frame} {meth : Method} {c : Code} {H : Heap} {locs : List Loc} {cells slots : Nat} {Q : State → Prop}
variable {cc : ByteArray} {nL pc : Nat} {ls : Array Slot} {rest : List Value} {D : va_G} {cy : Nat → Nat} {A : Nat → Prop} {H0 : Heap} {own : String} {n : Nat} {ad : Nat → Nat} {F : Nat → va_E}
/-- a method's body, from its entry -/
theorem zmet {y : MethodName} {maxL : Nat} {ret : Option FieldType} {rm : Room} {sz mc ms : Nat} {av : List Value} {Qc : Array Value → State → Outcome → State → Prop} (hy : plainName y.cls = true) (hlen : (lg_sl av).length ≤ maxL)
    (body : ∀ (p : Program) (e : Env) (s : State) (m : MethodId) (args : Array Value) (below : List Frame) (meth : Method) (c : Code) (ls : Array Slot),
      zC p m c cc maxL s args y.cls D cy → s.heap.size = sz → zH D (zA n ad sz) s.heap n ad F s.heap [] → (∀ q, s.heap.size ≤ q → zA n ad sz q) → meth.sig.returnType = ret → meth.locks = false → meth.name = y.name →
      lv_has ls maxL (lv_args 0 av) → W p l e rm s m args below meth c s.heap [] 0 0 (MQ below Qc args s mc ms (zA n ad sz)) (F0 m 0 ls [])) :
    Met l y (zw y cc maxL ret) rm (zPc D cy n ad F sz av) Qc mc ms (zA n ad sz) := by
  refine Met.ofW (cc := cc) (maxL := maxL) (ret := ret) hy rfl ?_
  intro p e s m args below meth c s₁ B hml hv
  obtain ⟨rfl, hsz, hP, hK, hD0, hN⟩ := hv
  have hts := atoms_spec (ws := zw y cc maxL ret) B.pre
  have hown : s.vm.findClass y.cls = some m.cls := findClass_of_methodNamed B.named
  have hl := lv_entry av (n := maxL) hlen
  rw [lg_entry_eq]
  refine body p e s m _ below meth c _ ⟨⟨B.exec, B.bytes, hml, hown, fun w hw => hts w (List.mem_cons_of_mem _ hw)⟩, hK, hN⟩ hsz ⟨hP, ?_, va_S.rf⟩ (fun q h => by rw [hsz] at h; exact zA_le h) B.returns B.notSynchronized (name_of_methodNamed B.named B.method).1 hl
  have := hD0.self (sz := sz)
  rwa [zA_eq] at this
/-! ===== fields ===== -/
def zFld (own : String) (index ci j : Nat) : Prop := ∃ (C : String) (T : u_T) (N : Nat), vwCl[ci]? = some (C, T, N) ∧ (∀ w ∈ u_ws C T N, w ∈ gtbl) ∧ j < N ∧ (T j).1 = C ∧
  (Cond.fieldLink own index C (T j).2.1 (T j).2.2.1 ∈ gtbl ∨ ∃ host, Cond.fieldLinkNest own index C (T j).2.1 (T j).2.2.1 host ∈ lw_tbl)
def zFldP (own : String) (index ci j : Nat) (fin : Bool) (ty : FieldType) : Prop := ∃ (C : String) (T : u_T) (N : Nat) (ty0 : Nat → FieldType), vwCl[ci]? = some (C, T, N) ∧ (∀ w ∈ u_ws C T N, w ∈ gtbl) ∧ j < N ∧ (T j).1 = C ∧
  (Cond.fieldLink own index C (T j).2.1 (T j).2.2.1 ∈ gtbl ∨ (fin = false ∧ ∃ host, Cond.fieldLinkNest own index C (T j).2.1 (T j).2.2.1 host ∈ lw_tbl)) ∧
  (∀ k, k < N → parseFieldDescriptor (T k).2.2.1 = some (ty0 k)) ∧ (∀ a, a < N → ∀ b, b < N → a ≠ b → (T a).2.1 ≠ (T b).2.1) ∧ (T j).2.2.2 = fin ∧ parseFieldDescriptor (T j).2.2.1 = some ty ∧ (fin = true → C = own)
theorem zget (hC : zC p m c cc nL s args own D cy) (hZ : zH D A H0 n ad F H locs) {index ci j k : Nat} (hf : zFld own index ci j) (hk : k < n) {fs : List Value} (hF : F k = .inr (ci, fs)) {v : Value} (hv : fs[j]? = some v) (hd : decode cc pc = .ok (.getfield index, 3))
    (kk : W p l e R s m args below meth c H locs cells slots Q (F0 m (pc + 3) ls (v :: rest))) : W p l e R s m args below meth c H locs cells slots Q (F0 m pc ls (.ref (ad k) :: rest)) := by
  obtain ⟨⟨hx, hb, hml, hown, hts⟩, hK, hN⟩ := hC
  obtain ⟨C, T, N, hc, hin, hj, hcl, hl⟩ := hf
  have he : (zW n ad F)[k]? = some (ad k, .inr (ci, fs)) := by rw [zW_get hk, hF]
  subst hcl
  rcases hl with hl | ⟨host, hl⟩
  · exact va_get (ref := (T j).1) hx hb hts hin hown hK hZ.1 k he hc j hj (hts _ hl) (fun _ h => h) hv hd kk
  · exact va_getN (ref := (T j).1) hx hb hts hin hown hK hZ.1 k he hc j hj (va_Nw.use rfl (hN _ hl rfl)) (fun _ h => h) hv hd kk
theorem zput (hC : zC p m c cc nL s args own D cy) (hZ : zH D A H0 n ad F H locs) {index ci j k : Nat} {ty : FieldType} (hf : zFldP own index ci j false ty) (hk : k < n) {fs : List Value} (hF : F k = .inr (ci, fs)) {v : Value} {E : va_E} (hE : (.inr (ci, fs.set j v) : va_E) = E) (hn : narrow ty v = v) (hfit : fits ty v = true) (hl : j < fs.length) (hd : decode cc pc = .ok (.putfield index, 3))
    (kk : ∀ (F1 : Nat → va_E), F1 = va_up F k E → ∀ (H1 : Heap) (locs1 : List Loc), zH D A H0 n ad F1 H1 locs1 → W p l e R s m args below meth c H1 locs1 cells slots Q (F0 m (pc + 3) ls rest)) : W p l e R s m args below meth c H locs cells slots Q (F0 m pc ls (v :: .ref (ad k) :: rest)) := by
  subst hE
  obtain ⟨⟨hx, hb, hml, hown, hts⟩, hK, hN⟩ := hC
  obtain ⟨C, T, N, ty0, hc, hin, hj, hcl, hl, hty, hnm, hfin, hpd, -⟩ := hf
  have he : (zW n ad F)[k]? = some (ad k, .inr (ci, fs)) := by rw [zW_get hk, hF]
  subst hcl
  have go : ∀ (H1 : Heap) (locs1 : List Loc), va_P D vwCl ((zW n ad F).set k (ad k, .inr (ci, fs.set j v))) H1 → va_D A ((zW n ad F).set k (ad k, .inr (ci, fs.set j v))) → va_S A H0 H1 locs1 → W p l e R s m args below meth c H1 locs1 cells slots Q (F0 m (pc + 3) ls rest) := by
    intro H1 locs1 h1 h2 h3
    rw [zW_set hk] at h1 h2
    exact kk _ rfl H1 locs1 ⟨h1, h2, h3⟩
  rcases hl with hl | ⟨-, host, hl⟩
  · exact va_put (ref := (T j).1) hx hb hts hin ty0 hty hnm hown hK hZ.1 hZ.2.1 hZ.2.2 k he hc j hj (hts _ hl) (fun _ h => h) hfin hpd hn hfit (by assumption) hd go
  · exact va_putN (ref := (T j).1) hx hb hts hin ty0 hty hnm hown hK hZ.1 hZ.2.1 hZ.2.2 k he hc j hj (va_Nw.use rfl (hN _ hl rfl)) (fun _ h => h) hfin hpd hn hfit (by assumption) hd go
theorem zputF (hC : zC p m c cc nL s args own D cy) (hZ : zH D A H0 n ad F H locs) (hin2 : meth.name = "<init>") {index ci j k : Nat} {ty : FieldType} (hf : zFldP own index ci j true ty) (hk : k < n) {fs : List Value} (hF : F k = .inr (ci, fs)) {v : Value} {E : va_E} (hE : (.inr (ci, fs.set j v) : va_E) = E) (hn : narrow ty v = v) (hfit : fits ty v = true) (hl : j < fs.length) (hd : decode cc pc = .ok (.putfield index, 3))
    (kk : ∀ (F1 : Nat → va_E), F1 = va_up F k E → ∀ (H1 : Heap) (locs1 : List Loc), zH D A H0 n ad F1 H1 locs1 → W p l e R s m args below meth c H1 locs1 cells slots Q (F0 m (pc + 3) ls rest)) : W p l e R s m args below meth c H locs cells slots Q (F0 m pc ls (v :: .ref (ad k) :: rest)) := by
  subst hE
  obtain ⟨⟨hx, hb, hml, hown, hts⟩, hK, hN⟩ := hC
  obtain ⟨C, T, N, ty0, hc, hin, hj, hcl, hl, hty, hnm, hfin, hpd, ho⟩ := hf
  have he : (zW n ad F)[k]? = some (ad k, .inr (ci, fs)) := by rw [zW_get hk, hF]
  subst hcl
  have go : ∀ (H1 : Heap) (locs1 : List Loc), va_P D vwCl ((zW n ad F).set k (ad k, .inr (ci, fs.set j v))) H1 → va_D A ((zW n ad F).set k (ad k, .inr (ci, fs.set j v))) → va_S A H0 H1 locs1 → W p l e R s m args below meth c H1 locs1 cells slots Q (F0 m (pc + 3) ls rest) := by
    intro H1 locs1 h1 h2 h3
    rw [zW_set hk] at h1 h2
    exact kk _ rfl H1 locs1 ⟨h1, h2, h3⟩
  rcases hl with hl | ⟨h, -⟩
  · exact va_putF (ref := (T j).1) hx hb hts hin ty0 hty hnm hown hK hZ.1 hZ.2.1 hZ.2.2 k he hc j hj (hts _ hl) (fun _ h => h) hfin hin2 (ho rfl) hpd hn hfit (by assumption) hd go
  · cases h
/-! ===== arrays ===== -/
theorem ziald (hC : zC p m c cc nL s args own D cy) (hZ : zH D A H0 n ad F H locs) {k N : Nat} (hk : k < n) {f : Nat → Int32} (hF : F k = .inl (cy 0, N, .inl f)) {i : Int32} {x : Nat} (hi : i = nI x) (hx : x < N) (hN : N < 2 ^ 31) (hd : decode cc pc = .ok (.iaload, 1))
    (kk : W p l e R s m args below meth c H locs cells slots Q (F0 m (pc + 1) ls (.int (f x) :: rest))) : W p l e R s m args below meth c H locs cells slots Q (F0 m pc ls (.int i :: .ref (ad k) :: rest)) := by
  obtain ⟨⟨hx0, hb, hml, hown, hts⟩, hK, hNN⟩ := hC
  subst hi
  have he : (zW n ad F)[k]? = some (ad k, .inl (cy 0, N, .inl f)) := by rw [zW_get hk, hF]
  refine va_iald hx0 hb hK hZ.1 k 0 he rfl (vp_in_nI hx hN) hd ?_
  rw [nI_clamp (Nat.lt_trans hx hN)]
  exact kk
theorem zlald (hC : zC p m c cc nL s args own D cy) (hZ : zH D A H0 n ad F H locs) {k N : Nat} (hk : k < n) {f : Nat → Int64} (hF : F k = .inl (cy 1, N, .inr (.inl f))) {i : Int32} {x : Nat} (hi : i = nI x) (hx : x < N) (hN : N < 2 ^ 31) (hd : decode cc pc = .ok (.laload, 1))
    (kk : W p l e R s m args below meth c H locs cells slots Q (F0 m (pc + 1) ls (.long (f x) :: rest))) : W p l e R s m args below meth c H locs cells slots Q (F0 m pc ls (.int i :: .ref (ad k) :: rest)) := by
  obtain ⟨⟨hx0, hb, hml, hown, hts⟩, hK, hNN⟩ := hC
  subst hi
  have he : (zW n ad F)[k]? = some (ad k, .inl (cy 1, N, .inr (.inl f))) := by rw [zW_get hk, hF]
  refine va_lald hx0 hb hK hZ.1 k 1 he rfl (vp_in_nI hx hN) hd ?_
  rw [nI_clamp (Nat.lt_trans hx hN)]
  exact kk
theorem zaald (hC : zC p m c cc nL s args own D cy) (hZ : zH D A H0 n ad F H locs) {k N t q : Nat} (hk : k < n) {f : Nat → Option Nat} (hF : F k = .inl (cy t, N, .inr (.inr (.inr (.inr f))))) {C : String} (ht : (zT cy)[t]? = some (cy t, .object C)) {i : Int32} {x : Nat} (hi : i = nI x) (hx : x < N) (hN : N < 2 ^ 31) (hq : f x = some q) (hd : decode cc pc = .ok (.aaload, 1))
    (kk : W p l e R s m args below meth c H locs cells slots Q (F0 m (pc + 1) ls (.ref q :: rest))) : W p l e R s m args below meth c H locs cells slots Q (F0 m pc ls (.int i :: .ref (ad k) :: rest)) := by
  obtain ⟨⟨hx0, hb, hml, hown, hts⟩, hK, hNN⟩ := hC
  subst hi
  have he : (zW n ad F)[k]? = some (ad k, .inl (cy t, N, .inr (.inr (.inr (.inr f))))) := by rw [zW_get hk, hF]
  refine va_aldq hx0 hb hK hZ.1 k t he ht (vp_in_nI hx hN) hd ?_
  rw [nI_clamp (Nat.lt_trans hx hN), hq]
  exact kk
theorem ziast (hC : zC p m c cc nL s args own D cy) (hZ : zH D A H0 n ad F H locs) {k N : Nat} (hk : k < n) {f : Nat → Int32} (hF : F k = .inl (cy 0, N, .inl f)) {i v : Int32} {x : Nat} (hi : i = nI x) (hx : x < N) (hN : N < 2 ^ 31) (hd : decode cc pc = .ok (.iastore, 1))
    (kk : ∀ (F1 : Nat → va_E), F1 = va_up F k (.inl (cy 0, N, .inl (upd f x v))) → ∀ (H1 : Heap) (locs1 : List Loc), zH D A H0 n ad F1 H1 locs1 → W p l e R s m args below meth c H1 locs1 cells slots Q (F0 m (pc + 1) ls rest)) : W p l e R s m args below meth c H locs cells slots Q (F0 m pc ls (.int v :: .int i :: .ref (ad k) :: rest)) := by
  obtain ⟨⟨hx0, hb, hml, hown, hts⟩, hK, hNN⟩ := hC
  subst hi
  have he : (zW n ad F)[k]? = some (ad k, .inl (cy 0, N, .inl f)) := by rw [zW_get hk, hF]
  refine va_iast hx0 hb hK hZ.1 hZ.2.1 hZ.2.2 k 0 he rfl (vp_in_nI hx hN) hd (fun H1 locs1 h1 h2 h3 => ?_)
  rw [zW_set hk, nI_clamp (Nat.lt_trans hx hN)] at h1 h2
  exact kk _ rfl H1 locs1 ⟨h1, h2, h3⟩
theorem zlast (hC : zC p m c cc nL s args own D cy) (hZ : zH D A H0 n ad F H locs) {k N : Nat} (hk : k < n) {f : Nat → Int64} (hF : F k = .inl (cy 1, N, .inr (.inl f))) {i : Int32} {v : Int64} {x : Nat} (hi : i = nI x) (hx : x < N) (hN : N < 2 ^ 31) (hd : decode cc pc = .ok (.lastore, 1))
    (kk : ∀ (F1 : Nat → va_E), F1 = va_up F k (.inl (cy 1, N, .inr (.inl (vp_updL f x v)))) → ∀ (H1 : Heap) (locs1 : List Loc), zH D A H0 n ad F1 H1 locs1 → W p l e R s m args below meth c H1 locs1 cells slots Q (F0 m (pc + 1) ls rest)) : W p l e R s m args below meth c H locs cells slots Q (F0 m pc ls (.long v :: .int i :: .ref (ad k) :: rest)) := by
  obtain ⟨⟨hx0, hb, hml, hown, hts⟩, hK, hNN⟩ := hC
  subst hi
  have he : (zW n ad F)[k]? = some (ad k, .inl (cy 1, N, .inr (.inl f))) := by rw [zW_get hk, hF]
  refine va_last hx0 hb hK hZ.1 hZ.2.1 hZ.2.2 k 1 he rfl (vp_in_nI hx hN) hd (fun H1 locs1 h1 h2 h3 => ?_)
  rw [zW_set hk, nI_clamp (Nat.lt_trans hx hN)] at h1 h2
  exact kk _ rfl H1 locs1 ⟨h1, h2, h3⟩
/-! ===== ends ===== -/
theorem zend {A : Nat → Prop} {F' : Nat → va_E} (hZ : zH D A s.heap n ad F' H locs) {t : State} (ht : t.heap = H) : zB D n ad F' t ∧ va_F A s t := ⟨by show va_P _ _ _ _; rw [ht]; exact hZ.1, hZ.2.2.F ht⟩
theorem zireti {A : Nat → Prop} (hC : zC p m c cc nL s args own D cy) (hZ : zH D A s.heap n ad F H locs) (hr : meth.sig.returnType = some .int) (hlocks : meth.locks = false) {v : Int32} {φ : Int32 → (Nat → va_E) → Prop} (hφ : φ v F) (hd : decode cc pc = .ok (.ireturn, 1)) :
    W p l e R s m args below meth c H locs cells slots (MQ below (va_Qi φ (zB D n ad) A) args s cells slots A) (F0 m pc ls [.int v]) :=
  W.iret hC.1.1 hC.1.2.1 hr (fun t ht _ => ⟨⟨v, F, rfl, hφ, (zend hZ ht).1⟩, (zend hZ ht).2⟩) hZ.2.2.2.2 hd hlocks
theorem zbreti {A : Nat → Prop} (hC : zC p m c cc nL s args own D cy) (hZ : zH D A s.heap n ad F H locs) (hr : meth.sig.returnType = some .boolean) (hlocks : meth.locks = false) {v : Int32} (hv : narrow .boolean (.int v) = .int v) {φ : Int32 → (Nat → va_E) → Prop} (hφ : φ v F) (hd : decode cc pc = .ok (.ireturn, 1)) :
    W p l e R s m args below meth c H locs cells slots (MQ below (va_Qi φ (zB D n ad) A) args s cells slots A) (F0 m pc ls [.int v]) :=
  W.zret hC.1.1 hC.1.2.1 hr hv (fun t ht _ => ⟨⟨v, F, rfl, hφ, (zend hZ ht).1⟩, (zend hZ ht).2⟩) hZ.2.2.2.2 hd hlocks
theorem zlret {A : Nat → Prop} (hC : zC p m c cc nL s args own D cy) (hZ : zH D A s.heap n ad F H locs) (hr : meth.sig.returnType = some .long) (hlocks : meth.locks = false) {v : Int64} {φ : Int64 → (Nat → va_E) → Prop} (hφ : φ v F) (hd : decode cc pc = .ok (.lreturn, 1)) :
    W p l e R s m args below meth c H locs cells slots (MQ below (va_Ql φ (zB D n ad) A) args s cells slots A) (F0 m pc ls [.long v]) :=
  W.lret hC.1.1 hC.1.2.1 hr (fun t ht _ => ⟨⟨v, F, rfl, hφ, (zend hZ ht).1⟩, (zend hZ ht).2⟩) hZ.2.2.2.2 hd hlocks
theorem zvret {A : Nat → Prop} (hC : zC p m c cc nL s args own D cy) (hZ : zH D A s.heap n ad F H locs) (hr : meth.sig.returnType = none) (hlocks : meth.locks = false) {φ : (Nat → va_E) → Prop} (hφ : φ F) (hd : decode cc pc = .ok (.return_, 1)) :
    W p l e R s m args below meth c H locs cells slots (MQ below (va_Qv φ (zB D n ad) A) args s cells slots A) (F0 m pc ls []) :=
  W.vret hC.1.1 hC.1.2.1 hr (fun t ht _ => ⟨⟨F, rfl, hφ, (zend hZ ht).1⟩, (zend hZ ht).2⟩) hZ.2.2.2.2 hd hlocks
/-! ===== calls ===== -/
def zMd (y : MethodName) (b : ByteArray) (nl : Nat) (ret : Option FieldType) (na : Nat) : Prop :=
  (y.cls ≠ "java/lang/invoke/MethodHandle" ∧ y.cls ≠ "java/lang/invoke/VarHandle" ∧ (parseMethodDescriptor y.desc).map (fun d => d.parameters.length) = some na) ∧ Cond.code y b nl ret ∈ gtbl ∧ Cond.initialized y.cls ∈ gtbl ∧ nl ≤ 13
def zMi (y : MethodName) : Prop := Cond.instanceMethod y ∈ gtbl ∧ Cond.selects y.cls y y ∈ gtbl
def zLk (own : String) (index : Nat) (y : MethodName) : Prop := Cond.methodLink own index y ∈ gtbl ∨ ∃ host, Cond.methodLinkNest own index y host ∈ lw_tbl
def zRj (R : Room) (j : Nat) : Prop := j + 1 ≤ R.frames ∧ 32 * (j + 1) ≤ R.locals
theorem zRj_of {k j : Nat} (h : Nat.ble (j + 1) k = true) : zRj (rmL k) j := by
  have := Nat.le_of_ble_eq_true h
  refine ⟨this, ?_⟩
  show 32 * (j + 1) ≤ 32 * k
  omega
theorem zcB {y : MethodName} {b : ByteArray} {nl na j : Nat} {ret : Option FieldType} {index : Nat} (hts : ∀ w ∈ gtbl, w.before args s = true) (hmd : zMd y b nl ret na) (hlk : Cond.methodLink own index y ∈ gtbl) (hR : zRj R j) :
    CallB R s args own index y b nl ret (zw y b nl ret) (rmL j) 0 0 na := by
  obtain ⟨h1, h2, h3, h4⟩ := hmd
  exact callB_of na hts (gt_GoodIn h2) rfl rfl rfl (hts _ h3) (hts _ hlk) h1 ⟨hR.1, by have := hR.2; show 8 + (nl + 11) + 32 * j ≤ _; omega⟩
theorem zcN {y : MethodName} {b : ByteArray} {nl na j : Nat} {ret : Option FieldType} {index : Nat} {host : String} (hts : ∀ w ∈ gtbl, w.before args s = true) (hN : zN s) (hmd : zMd y b nl ret na) (hlk : Cond.methodLinkNest own index y host ∈ lw_tbl) (hR : zRj R j) :
    va_CN R s args own index y host b nl ret (zw y b nl ret) (rmL j) 0 0 na := by
  obtain ⟨h1, h2, h3, h4⟩ := hmd
  exact va_cnB na hts (gt_GoodIn h2) rfl rfl rfl (hN _ hlk rfl) (hts _ h3) h1 ⟨hR.1, by have := hR.2; show 8 + (nl + 11) + 32 * j ≤ _; omega⟩
theorem zpre (hC : zC p m c cc nL s args own D cy) (hZ : zH D A H0 n ad F H locs) {av : List Value} : ∀ U : State, U.heap = H → s.WarmedH U.vm → zPc D cy n ad F H.size av av.toArray U :=
  fun U hU hW => ⟨rfl, by rw [hU], by rw [hU]; exact hZ.1, va_K.moved hW.alike hC.2.1, hZ.2.1.weaken (fun _ _ _ _ => trivial), hC.2.2.warm hW⟩
theorem zrunV (hC : zC p m c cc nL s args own D cy) (hZ : zH D A H0 n ad F H locs) {y : MethodName} {b : ByteArray} {nl na j k index : Nat} {ret : Option FieldType} {As : List Value} {Qc : Array Value → State → Outcome → State → Prop} {free : Addr → Prop} {st0 : List Value}
    (hM : Met l y (zw y b nl ret) (rmL j) (zPc D cy n ad F H.size (.ref (ad k) :: As)) Qc 0 0 free) (hmd : zMd y b nl ret na) (hmi : zMi y) (hlk : zLk own index y) (hR : zRj R j) (hk : k < n) {ci : Nat} {fs : List Value} (hF : F k = .inr (ci, fs)) {T : u_T} {N : Nat} (hc : vwCl[ci]? = some (y.cls, T, N))
    (hn : As.length = na) (hsize : ls.size = nL) (hst : st0 = As.reverse ++ .ref (ad k) :: rest) (hW : (rest.map fun v => v.category).sum ≤ 8) (hd : decode cc pc = .ok (.invokevirtual index, 3)) (hf : cells ≤ R.cells ∧ slots ≤ R.slots) :
    va_Run p l e R s m args below meth c H locs cells slots 0 0 (F0 m pc ls st0) rest (Qc (Value.ref (ad k) :: As).toArray) free := by
  have hPre : PreV s H y.cls (ad k) (zPc D cy n ad F H.size (.ref (ad k) :: As)) As := ⟨zPc.blind, va_recv hC.2.1 hZ.1 (q0 := k) hc (by rw [zW_get hk, hF]), zpre hC hZ⟩
  have hts := hC.1.2.2.2.2
  rcases hlk with hlk | ⟨host, hlk⟩
  · exact va_runV hC.1 hM ⟨zcB hts hmd hlk hR, hts _ hmi.1, hts _ hmi.2⟩ hPre rfl hn hsize hst (lv_room hW) hd hf
  · exact va_runVN hC.1 hM ⟨zcN hts hC.2.2 hmd hlk hR, hts _ hmi.1, hts _ hmi.2⟩ hPre rfl hn hsize hst (lv_room hW) hd hf
theorem zrunS (hC : zC p m c cc nL s args own D cy) (hZ : zH D A H0 n ad F H locs) {y : MethodName} {b : ByteArray} {nl na j index : Nat} {ret : Option FieldType} {As : List Value} {Qc : Array Value → State → Outcome → State → Prop} {free : Addr → Prop} {st0 : List Value}
    (hM : Met l y (zw y b nl ret) (rmL j) (zPc D cy n ad F H.size As) Qc 0 0 free) (hmd : zMd y b nl ret na) (hms : Cond.static y ∈ gtbl) (hlk : zLk own index y) (hR : zRj R j)
    (hn : As.length = na) (hsize : ls.size = nL) (hst : st0 = As.reverse ++ rest) (hW : (rest.map fun v => v.category).sum ≤ 8) (hd : decode cc pc = .ok (.invokestatic index, 3)) (hf : cells ≤ R.cells ∧ slots ≤ R.slots) :
    va_Run p l e R s m args below meth c H locs cells slots 0 0 (F0 m pc ls st0) rest (Qc As.toArray) free := by
  have hPre : PreS s H (zPc D cy n ad F H.size As) As := ⟨zPc.blind, zpre hC hZ⟩
  have hts := hC.1.2.2.2.2
  rcases hlk with hlk | ⟨host, hlk⟩
  · exact va_runS hC.1 hM ⟨zcB hts hmd hlk hR, hts _ hms⟩ hPre rfl hn hsize hst (lv_room hW) hd hf
  · exact va_runSN hC.1 hM ⟨zcN hts hC.2.2 hmd hlk hR, hts _ hms, trivial⟩ hPre rfl hn hsize hst (lv_room hW) hd hf
theorem zgoi (hZ : zH D A H0 n ad F H locs) (hA : ∀ q, H0.size ≤ q → A q) {st0 : List Value} {a : Array Value} {φ : Int32 → (Nat → va_E) → Prop}
    (hr : va_Run p l e R s m args below meth c H locs cells slots 0 0 (F0 m pc ls st0) rest (va_Qi φ (zB D n ad) (zA n ad H.size) a) (zA n ad H.size))
    (kk : ∀ (r : Int32) (F1 : Nat → va_E), φ r F1 → ∀ (H1 : Heap) (locs1 : List Loc), zH D A H0 n ad F1 H1 locs1 → W p l e R s m args below meth c H1 locs1 cells slots Q (F0 m (pc + 3) ls (.int r :: rest))) : W p l e R s m args below meth c H locs cells slots Q (F0 m pc ls st0) :=
  va_calli hr hZ.2.2 (fun q _ h => zA_sub hZ.2.1 (fun q h => hA q (Nat.le_trans hZ.2.2.1 h)) q h) (fun q h => zA_sub hZ.2.1 (fun q h => hA q (Nat.le_trans hZ.2.2.1 h)) q h)
    (fun r u t H1 locs1 ht _ hp hb _ _ hS => kk r u hp H1 locs1 ⟨by rw [← ht]; exact hb, zD_chg hZ.2.1, hS⟩)
theorem zgol (hZ : zH D A H0 n ad F H locs) (hA : ∀ q, H0.size ≤ q → A q) {st0 : List Value} {a : Array Value} {φ : Int64 → (Nat → va_E) → Prop}
    (hr : va_Run p l e R s m args below meth c H locs cells slots 0 0 (F0 m pc ls st0) rest (va_Ql φ (zB D n ad) (zA n ad H.size) a) (zA n ad H.size))
    (kk : ∀ (r : Int64) (F1 : Nat → va_E), φ r F1 → ∀ (H1 : Heap) (locs1 : List Loc), zH D A H0 n ad F1 H1 locs1 → W p l e R s m args below meth c H1 locs1 cells slots Q (F0 m (pc + 3) ls (.long r :: rest))) : W p l e R s m args below meth c H locs cells slots Q (F0 m pc ls st0) :=
  va_calll hr hZ.2.2 (fun q _ h => zA_sub hZ.2.1 (fun q h => hA q (Nat.le_trans hZ.2.2.1 h)) q h) (fun q h => zA_sub hZ.2.1 (fun q h => hA q (Nat.le_trans hZ.2.2.1 h)) q h)
    (fun r u t H1 locs1 ht _ hp hb _ _ hS => kk r u hp H1 locs1 ⟨by rw [← ht]; exact hb, zD_chg hZ.2.1, hS⟩)
theorem zgov (hZ : zH D A H0 n ad F H locs) (hA : ∀ q, H0.size ≤ q → A q) {st0 : List Value} {a : Array Value} {φ : (Nat → va_E) → Prop}
    (hr : va_Run p l e R s m args below meth c H locs cells slots 0 0 (F0 m pc ls st0) rest (va_Qv φ (zB D n ad) (zA n ad H.size) a) (zA n ad H.size))
    (kk : ∀ (F1 : Nat → va_E), φ F1 → ∀ (H1 : Heap) (locs1 : List Loc), zH D A H0 n ad F1 H1 locs1 → W p l e R s m args below meth c H1 locs1 cells slots Q (F0 m (pc + 3) ls rest)) : W p l e R s m args below meth c H locs cells slots Q (F0 m pc ls st0) :=
  va_callv hr hZ.2.2 (fun q _ h => zA_sub hZ.2.1 (fun q h => hA q (Nat.le_trans hZ.2.2.1 h)) q h) (fun q h => zA_sub hZ.2.1 (fun q h => hA q (Nat.le_trans hZ.2.2.1 h)) q h)
    (fun u t H1 locs1 ht _ hp hb _ _ hS => kk u hp H1 locs1 ⟨by rw [← ht]; exact hb, zD_chg hZ.2.1, hS⟩)
/-! ===== Math ===== -/
def zMath (own : String) (index : Nat) (y : MethodName) (b : ByteArray) (nl : Nat) (ret : Option FieldType) : Prop := Cond.methodLink own index y ∈ gtbl ∧ Cond.static y ∈ gtbl ∧ Cond.initialized "java/lang/Math" ∈ gtbl ∧ Cond.code y b nl ret ∈ gtbl
theorem zmax (hC : zC p m c cc nL s args own D cy) {index : Nat} (hm : zMath own index Lib.Math.max.name Lib.Math.max.code 2 (some .int)) (hsize : ls.size = nL) (hR : zRj R 0) (hW : (rest.map fun v => v.category).sum ≤ 8) (hf : cells ≤ R.cells ∧ slots ≤ R.slots) {x y : Int32} (hd : decode cc pc = .ok (.invokestatic index, 3))
    (kk : W p l e R s m args below meth c H locs cells slots Q (F0 m (pc + 3) ls (.int (if x < y then y else x) :: rest))) : W p l e R s m args below meth c H locs cells slots Q (F0 m pc ls (.int y :: .int x :: rest)) := by
  obtain ⟨⟨hx0, hb, hml, hown, hts⟩, hK, hNN⟩ := hC
  exact va_mmax hx0 hb (by rw [hml, hsize]) hown (hts _ hm.1) (hts _ hm.2.1) (hts _ hm.2.2.1) (hts _ hm.2.2.2) (by have := hR.1; omega) (by have := hR.2; omega) hf.1 hf.2 hd kk
theorem zmin (hC : zC p m c cc nL s args own D cy) {index : Nat} (hm : zMath own index Lib.Math.min.name Lib.Math.min.code 2 (some .int)) (hsize : ls.size = nL) (hR : zRj R 0) (hW : (rest.map fun v => v.category).sum ≤ 8) (hf : cells ≤ R.cells ∧ slots ≤ R.slots) {x y : Int32} (hd : decode cc pc = .ok (.invokestatic index, 3))
    (kk : W p l e R s m args below meth c H locs cells slots Q (F0 m (pc + 3) ls (.int (if y < x then y else x) :: rest))) : W p l e R s m args below meth c H locs cells slots Q (F0 m pc ls (.int y :: .int x :: rest)) := by
  obtain ⟨⟨hx0, hb, hml, hown, hts⟩, hK, hNN⟩ := hC
  exact va_mmin hx0 hb (by rw [hml, hsize]) hown (hts _ hm.1) (hts _ hm.2.1) (hts _ hm.2.2.1) (hts _ hm.2.2.2) (by have := hR.1; omega) (by have := hR.2; omega) hf.1 hf.2 hd kk
theorem zabs (hC : zC p m c cc nL s args own D cy) {index : Nat} (hm : zMath own index Lib.Math.abs.name Lib.Math.abs.code 1 (some .int)) (hsize : ls.size = nL) (hR : zRj R 0) (hW : (rest.map fun v => v.category).sum ≤ 8) (hf : cells ≤ R.cells ∧ slots ≤ R.slots) {x : Int32} (hd : decode cc pc = .ok (.invokestatic index, 3))
    (kk : W p l e R s m args below meth c H locs cells slots Q (F0 m (pc + 3) ls (.int (if 0 ≤ x then x else 0 - x) :: rest))) : W p l e R s m args below meth c H locs cells slots Q (F0 m pc ls (.int x :: rest)) := by
  obtain ⟨⟨hx0, hb, hml, hown, hts⟩, hK, hNN⟩ := hC
  exact va_mabs hx0 hb (by rw [hml, hsize]) hown (hts _ hm.1) (hts _ hm.2.1) (hts _ hm.2.2.1) (hts _ hm.2.2.2) (by have := hR.1; omega) (by have := hR.2; omega) hf.1 hf.2 hd kk
/-! ===== loops and joins: X is what varies ===== -/
theorem zlp {X : Type} (pc : Nat) (st : X → List Value) (φ : X → Array Slot → (Nat → va_E) → Prop) (μ : X → Nat)
    (step : ∀ x : X, (∀ (y : X) (ls : Array Slot) (F : Nat → va_E) (H : Heap) (locs : List Loc), μ y < μ x → zH D A H0 n ad F H locs → φ y ls F → W p l e R s m args below meth c H locs cells slots Q (F0 m pc ls (st y))) →
      ∀ (ls : Array Slot) (F : Nat → va_E) (H : Heap) (locs : List Loc), zH D A H0 n ad F H locs → φ x ls F → W p l e R s m args below meth c H locs cells slots Q (F0 m pc ls (st x)))
    (x : X) (hZ : zH D A H0 n ad F H locs) (h : φ x ls F) : W p l e R s m args below meth c H locs cells slots Q (F0 m pc ls (st x)) := by
  have key : ∀ (N : Nat) (x : X), μ x < N → ∀ (ls : Array Slot) (F : Nat → va_E) (H : Heap) (locs : List Loc), zH D A H0 n ad F H locs → φ x ls F → W p l e R s m args below meth c H locs cells slots Q (F0 m pc ls (st x)) := by
    intro N
    induction N with
    | zero => intro x hx; exact absurd hx (Nat.not_lt_zero _)
    | succ N ih => intro x hx; exact step x (fun y ls F H locs hy => ih y (by omega) ls F H locs)
  exact key (μ x + 1) x (Nat.lt_succ_self _) ls F H locs hZ h
theorem zjn {X : Type} {g : JFrame} (pc : Nat) (st : X → List Value) (φ : X → Array Slot → (Nat → va_E) → Prop)
    (k : ∀ (x : X) (ls : Array Slot) (F : Nat → va_E) (H : Heap) (locs : List Loc), zH D A H0 n ad F H locs → φ x ls F → W p l e R s m args below meth c H locs cells slots Q (F0 m pc ls (st x)))
    (f : (∀ (x : X) (ls : Array Slot) (F : Nat → va_E) (H : Heap) (locs : List Loc), zH D A H0 n ad F H locs → φ x ls F → W p l e R s m args below meth c H locs cells slots Q (F0 m pc ls (st x))) → W p l e R s m args below meth c H locs cells slots Q g) :
    W p l e R s m args below meth c H locs cells slots Q g := f k
end ZR
