/-! THE CLAIM OUT OF ONE WALK OF THE LAW'S BODY. Your part is whole_start (and what it stands on); all else here is the same for every law, but numbers. -/
def R_law : String := "ChainLeapLaw"
def lw_P (b : Addr) (xs : List Int32) (args : Array Value) (s : State) : Prop := args = #[.ref b] ∧ s.IntsAt b xs ∧ xs.length ≤ 384 ∧ (Jvm.Cond.and given_1 narrow_1).before args s = true
def lw_Q (_ : Array Value) (s : State) (o : Outcome) (t : State) : Prop := o = .returned (some (.int 1)) ∧ Framed s o t [] 600128 7301098
def lw_Z (below : List Frame) (a : Array Value) (s : State) : State → Prop := fun t => ∃ o, t.status = .running ∧ Ended t below o ∧ lw_Q a s o t
/-- the law's own end, with 1 on the stack, nothing written that was there before, its room as the claim has it -/
theorem lw_ret {p : Program} {l : Launch} {e : Env} {s : State} {m : MethodId} {below : List Frame} {meth : Method} {c : Code} {b : Nat} (hx : p.tables.exec = Jvm.exec) (hb : c.code = code) (hr : meth.sig.returnType = ret) (hlocks : meth.locks = false) {pc : Nat} {H : Heap} {ls : Array Slot} (hdg : decode code pc = .ok (.ireturn, 1)) : W p l e room_1 s m #[Value.ref b] below meth c H [] 600128 7301098 (lw_Z below #[Value.ref b] s) (F0 m pc ls [.int 1]) := by
  intro T hT X
  obtain ⟨fs, hret, hrun, hended, hW, hframe⟩ := X.leave (v := some (.int 1)) (hlocks := hlocks) (fun h => by rw [hr] at h; cases h)
  have hmeth' : T.vm.method? m = some meth := X.method'
  refine ⟨T.setFrames fs, ?_, .returned (some (.int 1)), hrun, hended, rfl, ⟨_, rfl⟩, hW, hframe⟩
  jvm_step X.here [X.here.top, hx, hb, hdg, hmeth', hr, ret, narrow_b1]
  (try refine ⟨rfl, ?_⟩); (try refine ⟨rfl, ?_⟩)
  first | (intro acts; rw [hret _ acts rfl rfl rfl]) | rw [hret _ _ rfl rfl rfl]
  exact Steps.refl _
/-- what holds at the law's entry: the machine, the code, the tables' words (any of lw_tbl by 'hts w (by decide +kernel)'), the script of L ints xs at the cell b, what the Statement gives of the start (any of its parts by flat_of_before) -/
def lw_At (p : Program) (s : State) (m : MethodId) (meth : Method) (c : Code) (b L : Nat) (xs : Nat → Int32) : Prop :=
  p.tables.exec = Jvm.exec ∧ c.code = code ∧ meth.sig.returnType = ret ∧ c.maxLocals = 8 ∧ s.vm.findClass R_law = some m.cls ∧ (∀ w ∈ lw_tbl, w.before #[Value.ref b] s = true) ∧ va_X b L xs s s.heap ∧ b < s.heap.size ∧ meth.locks = false ∧ (Jvm.Cond.and given_1 narrow_1).before #[Value.ref b] s = true

/-! ===== what stands all the while in the law ===== -/
abbrev AL (s : State) : Nat → Prop := fun q => s.heap.size ≤ q
def zJ (ad cy : Nat → Nat) (F : Nat → va_E) : Prop := ∃ (pic : Int32) (sc ps : Scn) (sh : Nat → Shf) (rd : Rdr) (dr : Stg) (fa : Tal) (mi : Crs) (th : Int32) (f : Nat → Int64), RX ad cy F pic sc ps sh rd dr fa mi ∧ RM ad cy F th pic sc ps sh ∧ gX sc ps sh ∧ F 68 = oLongs cy 1 f
def zLaw (p : Program) (l : Launch) (s : State) (m : MethodId) (meth : Method) (c : Code) (b L : Nat) (xs : Nat → Int32) (D : va_G) (cy sa : Nat → Nat) : Prop :=
  zC p m c code 8 s #[Value.ref b] RL D cy ∧ va_X b L xs s s.heap ∧ b < s.heap.size ∧ meth.sig.returnType = ret ∧ meth.locks = false ∧ zXs (AL s) sa s ∧ l.stackTraces = false ∧ L ≤ 384
theorem zRjL {j : Nat} (h : Nat.ble (j + 1) 11 = true) : zRj room_1 j := by
  have := Nat.le_of_ble_eq_true h
  exact ⟨this, by show 32 * (j + 1) ≤ 378; omega⟩
theorem RM_56 {ad cy : Nat → Nat} {F : Nat → va_E} {th pic : Int32} {sc ps : Scn} {sh : Nat → Shf} (h : RM ad cy F th pic sc ps sh) : ∃ fs, F 56 = .inr (7, fs) := by
  obtain ⟨bs, en, u, st, kk, dw, ho, sv, ia, tk, told, pl, nu, im, hw, kd, fg, so, mn, rw0, bt, hM, -⟩ := h
  exact ⟨_, hM⟩
section ZLS
variable {p : Program} {l : Launch} {e : Env} {s : State} {m : MethodId} {below : List Frame} {meth : Method} {c : Code} {H : Heap} {locs : List Loc} {cells slots : Nat} {Q : State → Prop}
variable {pc b L : Nat} {xs : Nat → Int32} {ls : Array Slot} {rest : List Value} {D : va_G} {cy sa : Nat → Nat}
theorem zsld (hw : zLaw p l s m meth c b L xs D cy sa) (hS : va_S (AL s) s.heap H locs) {v pv : Int32} {k : Nat} (hv : v = nI k) (hk : k < L) (hp : xs k = pv) (hd : decode code pc = .ok (.iaload, 1))
    (kk : W p l e room_1 s m #[Value.ref b] below meth c H locs cells slots Q (F0 m (pc + 1) ls (.int pv :: rest))) : W p l e room_1 s m #[Value.ref b] below meth c H locs cells slots Q (F0 m pc ls (.int v :: .ref b :: rest)) := by
  obtain ⟨hC, hX, hb, -, -, -, -, hL⟩ := hw
  subst hv
  refine va_sld hC.1.1 hC.1.2.1 hX hb (Nat.not_le.mpr hb) hS (vp_in_nI hk (by omega)) hd ?_
  rw [nI_clamp (by omega), hp]; exact kk
theorem zslen (hw : zLaw p l s m meth c b L xs D cy sa) (hS : va_S (AL s) s.heap H locs) (hd : decode code pc = .ok (.arraylength, 1))
    (kk : W p l e room_1 s m #[Value.ref b] below meth c H locs cells slots Q (F0 m (pc + 1) ls (.int (nI L) :: rest))) : W p l e room_1 s m #[Value.ref b] below meth c H locs cells slots Q (F0 m pc ls (.ref b :: rest)) := by
  obtain ⟨hC, hX, hb, -, -, -, -, hL⟩ := hw
  exact va_slen hC.1.1 hC.1.2.1 hX hb (Nat.not_le.mpr hb) hS hd kk
end ZLS
theorem c_X7_thrownQ (l : Launch) (D : va_G) (cy : Nat → Nat) (n : Nat) (ad : Nat → Nat) (F : Nat → va_E) (sz : Nat) (th pic : Int32) (sc ps : Scn) (sh : Nat → Shf) (hn : 68 ≤ n) (h : RM ad cy F th pic sc ps sh) : Met l yX7_thrown (zw yX7_thrown cX7_thrown 1 (some .int)) (rmL 0) (zPc D cy n ad F sz [.ref (ad 56)]) (va_Qi (fun r F1 => r = th ∧ F = F1) (zB D n ad) (zA n ad sz)) 0 0 (zA n ad sz) := by
  obtain ⟨bs, en, u, st, kk, dw, ho, sv, ia, tk, told, pl, nu, im, hw, kd, fg, so, mn, rw0, bt, hM, -⟩ := h
  exact c_X7_thrown l D cy n ad F sz _ _ _ _ _ _ _ _ _ _ _ _ _ _ _ _ hn hM
