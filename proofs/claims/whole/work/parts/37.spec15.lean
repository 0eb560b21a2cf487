/-! ===== writing calls of the reference ===== -/
section WRI
variable {told im hw kd fg so mn : Nat → Int32} {rw0 : Nat → Int64} {pic : Int32} {sc ps : Scn} {sh : Nat → Shf}
theorem rX_up {hw1 kd1 fg1 so1 mn1 : Nat → Int32} {rw1 : Nat → Int64} (h : rX told im hw kd fg so mn rw0 pic sc ps sh) {m : Nat} {s : Shf}
    (hs : ∀ e, e < 8 → ¬ e = m → hw1 e = hw e ∧ kd1 e = kd e ∧ fg1 e = fg e ∧ so1 e = so e ∧ mn1 e = mn e ∧ ∀ i, i < 100 → rw1 (100 * e + i) = rw0 (100 * e + i))
    (hn : rS s (hw1 m) (kd1 m) (fg1 m) (so1 m) (mn1 m) (fun i => rw1 (100 * m + i))) : rX told im hw1 kd1 fg1 so1 mn1 rw1 pic sc ps (va_up sh m s) := by
  refine ⟨h.1, h.2.1, fun e he => ?_⟩
  by_cases c : e = m
  · subst c; rw [va_up_self]; exact hn
  · rw [va_up_ne _ _ c]
    obtain ⟨a1, a2, a3, a4, a5, a6⟩ := hs e he c
    obtain ⟨b1, b2, b3⟩ := h.2.2 e he
    refine ⟨a1.trans b1, fun q => by rw [a2, a3]; exact b2 q, fun q => ?_⟩
    obtain ⟨c1, c2, c3⟩ := b3 q
    exact ⟨a4.trans c1, a5.trans c2, fun i hi => (a6 i hi).trans (c3 i hi)⟩
theorem rX_keep (h : rX told im hw kd fg so mn rw0 pic sc ps sh) (m : Nat) {what k f : Int32} (hw2 : what = 0 ∨ what = 1) : rX told im (upd hw m what) (upd kd m k) (upd fg m f) so mn rw0 pic sc ps (va_up sh m (if what = 0 then (0, (sh m).2) else (1, (k, f), (sh m).2.2))) := by
  refine rX_up h (fun e _ c => ⟨upd_nt _ _ c, upd_nt _ _ c, upd_nt _ _ c, rfl, rfl, fun _ _ => rfl⟩) ?_
  rw [upd_at, upd_at, upd_at]
  rcases hw2 with e | e
  · rw [if_pos e, e]
    exact ⟨rfl, fun q => absurd (show (0 : Int32) = 1 from q) (by decide), fun q => absurd (show (0 : Int32) = 2 from q) (by decide)⟩
  · rw [if_neg (by rw [e]; decide), e]
    exact ⟨rfl, fun _ => rfl, fun q => absurd (show (1 : Int32) = 2 from q) (by decide)⟩
def zfl (f : Nat → Int64) (a i : Nat) : Nat → Int64 := fun k => if a ≤ k ∧ k < a + i then 0 else f k
theorem zfl_0 (f : Nat → Int64) (a : Nat) : zfl f a 0 = f := by
  funext k; unfold zfl; rw [if_neg (by omega)]
theorem zfl_s (f : Nat → Int64) (a i : Nat) : vp_updL (zfl f a i) (a + i) 0 = zfl f a (i + 1) := by
  funext k; unfold vp_updL zfl
  by_cases c : k = a + i
  · rw [if_pos c, if_pos (by omega)]
  · rw [if_neg c]
    by_cases d : a ≤ k ∧ k < a + i
    · rw [if_pos d, if_pos (by omega)]
    · rw [if_neg d, if_neg (by omega)]
theorem rX_row (h : rX told im hw kd fg so mn rw0 pic sc ps sh) (m : Nat) (s q : Int32) : rX told im (upd hw m 2) kd fg (upd so m s) (upd mn m q) (zfl rw0 (100 * m) 100) pic sc ps (va_up sh m (2, (sh m).2.1, s, q, zfill (sh m).2.2.2.2 100)) := by
  refine rX_up h (fun e _ c => ⟨upd_nt _ _ c, rfl, rfl, upd_nt _ _ c, upd_nt _ _ c, fun i hi => by unfold zfl; rw [if_neg (by omega)]⟩) ?_
  rw [upd_at, upd_at, upd_at]
  refine ⟨rfl, fun q => absurd (show (2 : Int32) = 1 from q) (by decide), fun _ => ⟨rfl, rfl, fun i hi => ?_⟩⟩
  show zfl rw0 (100 * m) 100 (100 * m + i) = (zfill (sh m).2.2.2.2 100 i).toInt64
  unfold zfl zfill
  rw [if_pos (by omega), if_pos hi]; rfl
theorem rX_put (h : rX told im hw kd fg so mn rw0 pic sc ps sh) {m i : Nat} (hm : m < 8) (hi : i < 100) (hh : (sh m).1 = 2) (v : Int32) : rX told im hw kd fg so mn (vp_updL rw0 (100 * m + i) v.toInt64) pic sc ps (va_up sh m ((sh m).1, (sh m).2.1, (sh m).2.2.1, (sh m).2.2.2.1, upd (sh m).2.2.2.2 i v)) := by
  refine rX_up h (fun e _ c => ⟨rfl, rfl, rfl, rfl, rfl, fun k hk => if_neg (by omega)⟩) ?_
  obtain ⟨b1, b2, b3⟩ := h.2.2 m hm
  obtain ⟨c1, c2, c3⟩ := b3 hh
  refine ⟨b1, b2, fun _ => ⟨c1, c2, fun k hk => ?_⟩⟩
  show vp_updL rw0 (100 * m + i) v.toInt64 (100 * m + k) = (upd (sh m).2.2.2.2 i v k).toInt64
  by_cases e : k = i
  · subst e; rw [upd_at]; exact if_pos rfl
  · rw [upd_nt _ _ e]; exact (if_neg (by omega)).trans (c3 k hk)
def zcl (f g : Nat → Int64) (a n : Nat) : Nat → Int64 := fun k => if k < n then f (a + k) else g k
theorem zcl_0 (f g : Nat → Int64) (a : Nat) : zcl f g a 0 = g := by funext k; unfold zcl; rw [if_neg (by omega)]
theorem zcl_s (f g : Nat → Int64) (a n : Nat) : vp_updL (zcl f g a n) n (f (a + n)) = zcl f g a (n + 1) := by
  funext k; unfold vp_updL zcl
  by_cases c : k = n
  · rw [if_pos c, if_pos (by omega), c]
  · rw [if_neg c]
    by_cases d : k < n
    · rw [if_pos d, if_pos (by omega)]
    · rw [if_neg d, if_neg (by omega)]
def zdl (f g : Nat → Int64) (b n : Nat) : Nat → Int64 := fun k => if b ≤ k ∧ k < b + n then g (k - b) else f k
theorem zdl_0 (f g : Nat → Int64) (b : Nat) : zdl f g b 0 = f := by funext k; unfold zdl; rw [if_neg (by omega)]
theorem zdl_s (f g : Nat → Int64) (b n : Nat) : vp_updL (zdl f g b n) (b + n) (g n) = zdl f g b (n + 1) := by
  funext k; unfold vp_updL zdl
  by_cases c : k = b + n
  · rw [if_pos c, if_pos (by omega), c, Nat.add_sub_cancel_left]
  · rw [if_neg c]
    by_cases d : b ≤ k ∧ k < b + n
    · rw [if_pos d, if_pos (by omega)]
    · rw [if_neg d, if_neg (by omega)]
theorem rX_copy (h : rX told im hw kd fg so mn rw0 pic sc ps sh) {d e i j n : Nat} (hd : d < 8) (he : e < 8) (hhd : (sh d).1 = 2) (hhe : (sh e).1 = 2) (hi : i + n ≤ 100) (hj : j + n ≤ 100) (bt : Nat → Int64) : rX told im hw kd fg so mn (zdl rw0 (zcl rw0 bt (100 * d + i) n) (100 * e + j) n) pic sc ps (va_up sh e ((sh e).1, (sh e).2.1, (sh e).2.2.1, (sh e).2.2.2.1, va_cpy (sh d).2.2.2.2 (sh e).2.2.2.2 i j n)) := by
  refine rX_up h (fun x _ c => ⟨rfl, rfl, rfl, rfl, rfl, fun k hk => by unfold zdl; rw [if_neg (by omega)]⟩) ?_
  obtain ⟨b1, b2, b3⟩ := h.2.2 e he
  obtain ⟨c1, c2, c3⟩ := b3 hhe
  have d3 := ((h.2.2 d hd).2.2 hhd).2.2
  refine ⟨b1, b2, fun _ => ⟨c1, c2, fun k hk => ?_⟩⟩
  show zdl rw0 (zcl rw0 bt (100 * d + i) n) (100 * e + j) n (100 * e + k) = (va_cpy (sh d).2.2.2.2 (sh e).2.2.2.2 i j n k).toInt64
  unfold zdl va_cpy
  by_cases q : j ≤ k ∧ k < j + n
  · rw [if_pos (by omega), if_pos q]
    unfold zcl
    rw [if_pos (by omega), show 100 * d + i + (100 * e + k - (100 * e + j)) = 100 * d + (i + (k - j)) by omega]
    exact d3 _ (by omega)
  · rw [if_neg (by omega), if_neg q]; exact c3 k hk
theorem rX_image (h : rX told im hw kd fg so mn rw0 pic sc ps sh) (hg : gScn sc) {f : Nat → Int32} (hi : f 0 = sc.1.1 ∧ f 1 = sc.1.2.1 ∧ f 2 = sc.1.2.2.1 ∧ f 3 = sc.2.1 ∧ f 4 = sc.1.2.2.2 ∧ f 5 = sc.2.2.2.1 ∧ f 6 = sc.2.2.2.2.1 ∧ f 7 = sc.2.2.2.2.2.1 ∧ f 8 = sc.2.2.2.2.2.2.1 ∧ f 9 = sc.2.2.2.2.2.2.2.1 ∧ f 10 = sc.2.2.2.2.2.2.2.2) (hf : ∀ k, k < 32 → f (11 + k) = told k) (p : Int32) : rX told f hw kd fg so mn rw0 p sc sc sh := by
  obtain ⟨g0, g1, g2, g3, g4, g5, g6, g7, g8, g9, g10⟩ := hi
  have htc := tc_n hg
  refine ⟨h.1, fun _ => ⟨g0, g1, g2, g3, g4, g5, g6, g7, g8, g9, g10, fun i hi => ?_⟩, h.2.2⟩
  obtain ⟨a0, a1, a2, a3⟩ := h.1 i hi
  exact ⟨(hf _ (by omega)).trans a0, (hf _ (by omega)).trans a1, (hf _ (by omega)).trans a2, (hf _ (by omega)).trans a3⟩
theorem rX_restore (h : rX told im hw kd fg so mn rw0 pic sc ps sh) (hp : ¬ pic = 0) (hg : gScn ps) {f : Nat → Int32} (hf : ∀ k, k < 32 → f k = im (11 + k)) : rX f im hw kd fg so mn rw0 pic ps ps sh := by
  have htc := tc_n hg
  obtain ⟨g0, g1, g2, g3, g4, g5, g6, g7, g8, g9, g10, ht⟩ := h.2.1 hp
  refine ⟨fun i hi => ?_, h.2.1, h.2.2⟩
  obtain ⟨a0, a1, a2, a3⟩ := ht i hi
  exact ⟨(hf _ (by omega)).trans a0, (hf _ (by omega)).trans a1, (hf _ (by omega)).trans a2, (hf _ (by omega)).trans a3⟩
end WRI
theorem bPlace_m {z i : Int32} (h0 : 0 ≤ z.toInt) (h1 : z.toInt ≤ 100) : bIn i 0 (z - 1) ↔ bPlace z i := by
  have e1 : (1 : Int32).toInt = 1 := rfl
  have e0 : (0 : Int32).toInt = 0 := rfl
  have eh : (100 : Int32).toInt = 100 := rfl
  have e : (z - 1).toInt = z.toInt - 1 := zsub (by rw [e1]; omega) (by rw [e1]; omega)
  constructor
  · intro h
    have a := i32le.mp h.2
    rw [e] at a
    exact ⟨h.1, i32lt.mpr (by omega), i32lt.mpr (by omega)⟩
  · intro h
    have a := i32lt.mp h.2.1
    exact ⟨h.1, i32le.mpr (by rw [e]; omega)⟩
theorem bPlace_i {z i : Int32} (h : bPlace z i) : i = nI (iN i) ∧ iN i < 100 := iN_at (N := 100) h.1 h.2.2 rfl
theorem mStretch {z i q : Int32} (h0 : 0 ≤ z.toInt) (h1 : z.toInt ≤ 100) (hq : 0 ≤ q) (hi : 0 ≤ i) : bStretch z i q ↔ i ≤ z - q := by
  have a := i32le.mp hq
  have b := i32le.mp hi
  have e0 : (0 : Int32).toInt = 0 := rfl
  have e : (z - q).toInt = z.toInt - q.toInt := zsub (by have := Int32.toInt_lt q; omega) (by omega)
  constructor
  · intro h; exact h.2.2.2
  · intro h
    have c := i32le.mp h
    rw [e] at c
    exact ⟨hq, i32le.mpr (by omega), hi, h⟩
def sElT (sh : Nat → Shf) (d i : Int32) : Int32 := if sRowR sh d = -1 then 1 else if sRowR sh d = 0 ∧ bPlace (sh (iN d)).2.2.2.1 i then 0 else 2
def sElV (sh : Nat → Shf) (d i : Int32) : Int64 := if sElT sh d i = 0 then ((sh (iN d)).2.2.2.2 (iN i)).toInt64 else 0
def sToss (t : Tal) : Int32 := if t.1 = 5 ∨ t.2 = 0 then -15 else if t.1 = 2 then 100 + t.2 else if t.1 = 7 then 200 + sWait t else t.2
