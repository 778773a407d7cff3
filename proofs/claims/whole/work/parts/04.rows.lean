/-! ROWS over the world of 03: an instruction each. -/
/-! locals, all of one slot -/
def kh_lv (ls : Array Slot) (nL : Nat) (l : List (Nat × Value)) : Prop := lv_has ls nL l ∧ ∀ q ∈ l, q.2.category = 1
theorem kh_c1 (r : Option Nat) : (va_rf r).category = 1 := by cases r <;> rfl
theorem kh_at {ls : Array Slot} {nL : Nat} {l : List (Nat × Value)} (h : kh_lv ls nL l) (k : Nat) {i : Nat} {v : Value} (hk : l[k]? = some (i, v)) : ls[i]? = some (.val v) := lv_at h.1 k hk
theorem kh_sub {ls : Array Slot} {nL : Nat} {l l' : List (Nat × Value)} (h : kh_lv ls nL l) (ks : List Nat) (hl : lv_pick l ks = l') : kh_lv ls nL l' := by
  refine ⟨lv_sub h.1 ks hl, fun q hq => ?_⟩
  rw [← hl] at hq
  obtain ⟨k, -, hk⟩ := List.mem_filterMap.mp hq
  exact h.2 q (List.mem_of_getElem? hk)
theorem kh_flt {ls ls' : Array Slot} {nL i : Nat} {v : Value} {l l' : List (Nat × Value)} (h : kh_lv ls nL l) (hc : v.category = 1) (h' : lv_has ls' nL ((i, v) :: l.filter (fun q => !(q.1 == i) && !(q.1 + 1 == i && q.2.category == 2)))) (hl : (i, v) :: l.filter (fun q => !(q.1 == i)) = l') : kh_lv ls' nL l' := by
  have e : l.filter (fun q => !(q.1 == i) && !(q.1 + 1 == i && q.2.category == 2)) = l.filter (fun q => !(q.1 == i)) := by
    refine List.filter_congr fun q hq => ?_
    rw [h.2 q hq]
    simp
  rw [e, hl] at h'
  refine ⟨h', fun q hq => ?_⟩
  rw [← hl] at hq
  rcases List.mem_cons.mp hq with e | hq
  · rw [e]; exact hc
  · exact h.2 q (List.mem_filter.mp hq).1
theorem kh_c1s {ls : Array Slot} {nL : Nat} {l : List (Nat × Value)} (h : lv_has ls nL l) (hc : (l.map fun q => q.2.category) = l.map fun _ => 1) : kh_lv ls nL l := by
  refine ⟨h, fun q hq => ?_⟩
  obtain ⟨k, hk⟩ := List.getElem?_of_mem hq
  have h1 := congrArg (fun z => z[k]?) hc
  simpa [hk] using h1
section KHR
variable {p : Program} {l : Launch} {e : Env} {R : Room} {s : State} {m : MethodId} {args : Array Value} {below : List Frame} {meth : Method} {c : Code} {H : Heap} {locs : List Loc} {cells slots : Nat} {Q : State → Prop}
variable {cc : ByteArray} {nL pc index : Nat} {own : String} {Ts : List Cond} {ls : Array Slot} {rest : List Value} {D : va_G} {ca : Nat → ClassId} {A : Nat → Prop} {ad : Nat → Nat → Nat} {ρ : kh_S}
theorem kh_get (C : kh_C p s m args c cc nL own Ts D ca A) (hw : kh_w D ca A ad ρ H) (k sl : Nat) {i : Nat} {z v : Value} (hz : z = .ref (ad k i)) (hi : i < kh_n ρ k) {ci N : Nat} {Cn : String} {T : u_T} (hkd : kh_kd k = (0, ci, 0)) (hc : vwCl[ci]? = some (Cn, T, N)) (hsl : sl < N)
    (hlink : (Cond.fieldLink own index (T sl).1 (T sl).2.1 (T sl).2.2.1).before args s = true) (hv : (kh_fs ad ρ k i 0 (kh_ds k))[sl]? = some v) (hdg : decode cc pc = .ok (.getfield index, 3))
    (kk : W p l e R s m args below meth c H locs cells slots Q (F0 m (pc + 3) ls (v :: rest))) : W p l e R s m args below meth c H locs cells slots Q (F0 m pc ls (z :: rest)) := by
  subst hz
  obtain ⟨hx, hb, -, hown, -, hK, -⟩ := C
  have h1 := (hw.1 k i hi).1
  rw [show kh_e ca ad ρ k i = .inr (ci, kh_fs ad ρ k i 0 (kh_ds k)) by simp only [kh_e, hkd, if_true]] at h1
  obtain ⟨r, hr0, cell, q1, q2, q3, q4⟩ := h1
  have hr : r = (Cn, T, N) := Option.some.inj (hr0.symm.trans hc)
  subst hr
  obtain ⟨hS, hfc, kC, hkC, hkind⟩ := hK.1.1 ci _ hc
  obtain ⟨cf, kf, fi, f, hfi, hslot⟩ := hS sl hsl
  refine W.getf hx hb hown hlink hfi (u_facts (args := args) hfc hkC (u_lays (fun w h => hK.2.2.1 ci _ hc w h args) (fun w h => h) hsl) hfi).1 q1 (by rw [q3]; exact fun h => by cases h) (v := v) ?_ rfl rfl hdg kk
  rw [hslot, q4 sl hsl]
  have h2 : vp_V (kh_fs ad ρ k i 0 (kh_ds k)) sl = v := by simp only [vp_V, List.getD_eq_getElem?_getD, hv]; rfl
  exact congrArg some h2
theorem kh_put (C : kh_C p s m args c cc nL own Ts D ca A) (hw : kh_w D ca A ad ρ H) (hS0 : va_S A s.heap H locs) (k sl : Nat) {i : Nat} {z v : Value} {x : Int32} (hz : z = .ref (ad k i)) (hi : i < kh_n ρ k) {ci N : Nat} {Cn : String} {T : u_T} (hkd : kh_kd k = (0, ci, 0)) (hk61 : k ≠ 61) (hc : vwCl[ci]? = some (Cn, T, N)) (hsl : sl < N) {d : Nat × Nat} (hd : (kh_ds k)[sl]? = some d)
    (hlink : (Cond.fieldLink own index (T sl).1 (T sl).2.1 (T sl).2.2.1).before args s = true) (hfin : (T sl).2.2.2 = false) (hv : kh_dv ad (kh_up ρ k sl i 0 x) k i sl d = v) {ty : FieldType} (hty : parseFieldDescriptor (T sl).2.2.1 = some ty) (hn : narrow ty v = v) (hfit : fits ty v = true) (hdg : decode cc pc = .ok (.putfield index, 3))
    (kk : ∀ (H1 : Heap) (locs1 : List Loc), kh_w D ca A ad (kh_up ρ k sl i 0 x) H1 → va_S A s.heap H1 locs1 → W p l e R s m args below meth c H1 locs1 cells slots Q (F0 m (pc + 3) ls rest)) : W p l e R s m args below meth c H locs cells slots Q (F0 m pc ls (v :: z :: rest)) := by
  subst hz
  obtain ⟨hx, hb, -, hown, -, hK, -⟩ := C
  have h1 := (hw.1 k i hi).1
  have he : ∀ ρ' : kh_S, kh_e ca ad ρ' k i = .inr (ci, kh_fs ad ρ' k i 0 (kh_ds k)) := fun ρ' => by simp only [kh_e, hkd, if_true]
  rw [he] at h1
  obtain ⟨r, hr0, cell, q1, q2, q3, q4⟩ := h1
  have hr : r = (Cn, T, N) := Option.some.inj (hr0.symm.trans hc)
  subst hr
  obtain ⟨hSl, hfc, kC, hkC, hkind⟩ := hK.1.1 ci _ hc
  obtain ⟨cf, kf, fi, f, hfi, hslot⟩ := hSl sl hsl
  have hLw := fun w h => hK.2.2.1 ci _ hc w h args
  have hlay : (u_lay Cn T sl).before args s = true := hLw _ (u_in_lay hsl)
  unfold u_lay at hlay
  rw [if_neg (by rw [hfin]; decide)] at hlay
  have hst := (u_facts (args := args) hfc hkC (u_lays hLw (fun w h => h) hsl) hfi).1
  have h6 := u_store hfc hkC hkind hlay hfi hty hn hfit
  obtain ⟨⟨ty0, hty0⟩, hnm⟩ := kh_cls hc
  have hap := va_apart (own := own) (Ts := u_ws Cn T N) hLw (fun w h => h) ty0 hty0 hnm hK.1 hc
  have hlen : sl < (kh_fs ad ρ k i 0 (kh_ds k)).length := by rw [kh_fs_len]; exact (List.getElem?_eq_some_iff.mp hd).1
  refine W.putK hx hb (f := f) ⟨hown, hlink, ⟨_, _, _, hfi⟩, hst⟩ (by rw [q2]; exact h6) q1 q3 (by rw [hslot]; exact k2_hasslot (q4 sl hsl)) rfl rfl hdg fun H' e1 e2 e3 => ?_
  rw [hslot] at e1 ⊢
  have hfs : kh_fs ad (kh_up ρ k sl i 0 x) k i 0 (kh_ds k) = (kh_fs ad ρ k i 0 (kh_ds k)).set sl v := by
    have h9 := kh_fs_set (ad := ad) (ρ := ρ) (k := k) (i := i) (x := x) (kh_ds k) 0 sl hd
    rw [Nat.zero_add] at h9
    rw [h9, hv]
  refine kk H' _ (hw.put hk61 hi e3 ?_) (hS0.put e2 e3 (hw.1 k i hi).2)
  rw [he, hfs]
  exact ⟨_, hc, t_OB.to (V := updV (vp_V (kh_fs ad ρ k i 0 (kh_ds k))) sl v) ⟨_, e1, q2, q3, t_set q4 hap hsl v⟩ (fun j _ => vp_updV_set hlen v j)⟩
theorem kh_putI (C : kh_C p s m args c cc nL own Ts D ca A) (hw : kh_w D ca A ad ρ H) (hS0 : va_S A s.heap H locs) (k sl : Nat) {i : Nat} {z : Value} {x : Int32} (hz : z = .ref (ad k i)) (hi : i < kh_n ρ k) {ci N : Nat} {Cn : String} {T : u_T} (hkd : kh_kd k = (0, ci, 0)) (hk61 : k ≠ 61) (hc : vwCl[ci]? = some (Cn, T, N)) (hsl : sl < N) (hd : (kh_ds k)[sl]? = some (0, 0))
    (hlink : (Cond.fieldLink own index (T sl).1 (T sl).2.1 (T sl).2.2.1).before args s = true) (hfin : (T sl).2.2.2 = false) (hty : parseFieldDescriptor (T sl).2.2.1 = some .int) (hdg : decode cc pc = .ok (.putfield index, 3))
    (kk : ∀ (H1 : Heap) (locs1 : List Loc), kh_w D ca A ad (kh_up ρ k sl i 0 x) H1 → va_S A s.heap H1 locs1 → W p l e R s m args below meth c H1 locs1 cells slots Q (F0 m (pc + 3) ls rest)) : W p l e R s m args below meth c H locs cells slots Q (F0 m pc ls (.int x :: z :: rest)) :=
  kh_put C hw hS0 k sl (v := .int x) hz hi hkd hk61 hc hsl hd hlink hfin (by show Value.int _ = _; rw [kh_up_self]) hty rfl rfl hdg kk
def kh_b (x : Int32) : Bool := decide (x = 0) || decide (x = 1)
theorem kh_b_ok {x : Int32} (h : kh_b x = true) : narrow .boolean (.int x) = .int x ∧ fits .boolean (.int x) = true := by
  simp only [kh_b, Bool.or_eq_true, decide_eq_true_eq] at h
  rcases h with rfl | rfl <;> exact ⟨rfl, rfl⟩
theorem kh_putZ (C : kh_C p s m args c cc nL own Ts D ca A) (hw : kh_w D ca A ad ρ H) (hS0 : va_S A s.heap H locs) (k sl : Nat) {i : Nat} {z : Value} {x : Int32} (hz : z = .ref (ad k i)) (hi : i < kh_n ρ k) {ci N : Nat} {Cn : String} {T : u_T} (hkd : kh_kd k = (0, ci, 0)) (hk61 : k ≠ 61) (hc : vwCl[ci]? = some (Cn, T, N)) (hsl : sl < N) (hd : (kh_ds k)[sl]? = some (0, 0))
    (hlink : (Cond.fieldLink own index (T sl).1 (T sl).2.1 (T sl).2.2.1).before args s = true) (hfin : (T sl).2.2.2 = false) (hty : parseFieldDescriptor (T sl).2.2.1 = some .boolean) (hx : kh_b x = true) (hdg : decode cc pc = .ok (.putfield index, 3))
    (kk : ∀ (H1 : Heap) (locs1 : List Loc), kh_w D ca A ad (kh_up ρ k sl i 0 x) H1 → va_S A s.heap H1 locs1 → W p l e R s m args below meth c H1 locs1 cells slots Q (F0 m (pc + 3) ls rest)) : W p l e R s m args below meth c H locs cells slots Q (F0 m pc ls (.int x :: z :: rest)) :=
  kh_put C hw hS0 k sl (v := .int x) hz hi hkd hk61 hc hsl hd hlink hfin (by show Value.int _ = _; rw [kh_up_self]) hty (kh_b_ok hx).1 (kh_b_ok hx).2 hdg kk
/-- a reference field: the value on the stack is the coded reference, or null -/
theorem kh_putR (C : kh_C p s m args c cc nL own Ts D ca A) (hw : kh_w D ca A ad ρ H) (hS0 : va_S A s.heap H locs) (k sl kt : Nat) {i : Nat} {z v : Value} {x : Int32} {C2 : String} (hz : z = .ref (ad k i)) (hi : i < kh_n ρ k) {ci N : Nat} {Cn : String} {T : u_T} (hkd : kh_kd k = (0, ci, 0)) (hk61 : k ≠ 61) (hc : vwCl[ci]? = some (Cn, T, N)) (hsl : sl < N) (hd : (kh_ds k)[sl]? = some (1, kt))
    (hlink : (Cond.fieldLink own index (T sl).1 (T sl).2.1 (T sl).2.2.1).before args s = true) (hfin : (T sl).2.2.2 = false) (hty : parseFieldDescriptor (T sl).2.2.1 = some (.object C2)) (hx : v = va_rf (kh_rc ad kt x)) (hdg : decode cc pc = .ok (.putfield index, 3))
    (kk : ∀ (H1 : Heap) (locs1 : List Loc), kh_w D ca A ad (kh_up ρ k sl i 0 x) H1 → va_S A s.heap H1 locs1 → W p l e R s m args below meth c H1 locs1 cells slots Q (F0 m (pc + 3) ls rest)) : W p l e R s m args below meth c H locs cells slots Q (F0 m pc ls (v :: z :: rest)) := by
  have h1 : narrow (.object C2) v = v ∧ fits (.object C2) v = true := by
    rw [hx]
    rcases va_rf_or (kh_rc ad kt x) with h | ⟨a, h⟩ <;> rw [h] <;> exact ⟨rfl, rfl⟩
  exact kh_put C hw hS0 k sl (v := v) hz hi hkd hk61 hc hsl hd hlink hfin (by rw [hx]; show va_rf (kh_rc ad kt _) = _; rw [kh_up_self]) hty h1.1 h1.2 hdg kk
theorem kh_arr (hw : kh_w D ca A ad ρ H) {k i n q : Nat} (hi : i < kh_n ρ k) (hkd : kh_kd k = (1, q, n) ∨ kh_kd k = (2, q, n)) : H[ad k i]? = some (arrV (ca k) n (fun j => .int (ρ k 0 i j))) := by
  have h1 := (hw.1 k i hi).1
  have he : kh_e ca ad ρ k i = .inl (ca k, n, .inl (ρ k 0 i)) := by
    rcases hkd with h | h <;> simp [kh_e, h]
  rw [he] at h1
  exact h1
theorem kh_iald (C : kh_C p s m args c cc nL own Ts D ca A) (hw : kh_w D ca A ad ρ H) (k : Nat) {i n q : Nat} {z : Value} {j : Int32} (hz : z = .ref (ad k i)) (hi : i < kh_n ρ k) (hkd : kh_kd k = (1, q, n)) (hj : kh_in j n = true) (hdg : decode cc pc = .ok (.iaload, 1))
    (kk : W p l e R s m args below meth c H locs cells slots Q (F0 m (pc + 1) ls (.int (ρ k 0 i j.toNatClampNeg) :: rest))) : W p l e R s m args below meth c H locs cells slots Q (F0 m pc ls (.int j :: z :: rest)) := by
  subst hz
  obtain ⟨hx, hb, -, hown, -, hK, -⟩ := C
  have hA := (hK.2.1 k (by simp [hkd])).1
  rw [show kh_ty k = .int by simp [kh_ty, hkd]] at hA
  exact W.iald (v := .int (ρ k 0 i j.toNatClampNeg)) hx hb (kh_arr hw hi (Or.inl hkd)) (hA _ _) (fun q => by cases q) (by rw [arrV_size]; exact kh_in_vp hj) (by rw [arrV_read _ _ (kh_in_lt hj)]) rfl rfl hdg kk
theorem kh_zald (C : kh_C p s m args c cc nL own Ts D ca A) (hw : kh_w D ca A ad ρ H) (k : Nat) {i n q : Nat} {z : Value} {j : Int32} (hz : z = .ref (ad k i)) (hi : i < kh_n ρ k) (hkd : kh_kd k = (2, q, n)) (hj : kh_in j n = true) (hdg : decode cc pc = .ok (.baload, 1))
    (kk : W p l e R s m args below meth c H locs cells slots Q (F0 m (pc + 1) ls (.int (ρ k 0 i j.toNatClampNeg) :: rest))) : W p l e R s m args below meth c H locs cells slots Q (F0 m pc ls (.int j :: z :: rest)) := by
  subst hz
  obtain ⟨hx, hb, -, hown, -, hK, -⟩ := C
  have hA := (hK.2.1 k (by simp [hkd])).1
  rw [show kh_ty k = .boolean by simp [kh_ty, hkd]] at hA
  exact W.zald (v := .int (ρ k 0 i j.toNatClampNeg)) hx hb (kh_arr hw hi (Or.inr hkd)) (hA _ _) (fun q => by cases q) (by rw [arrV_size]; exact kh_in_vp hj) (by rw [arrV_read _ _ (kh_in_lt hj)]) rfl rfl hdg kk
theorem kh_arr_up {ρ : kh_S} {k i n : Nat} {j x : Int32} {cA : ClassId} : (arrV cA n (fun q => .int (ρ k 0 i q))).setSlot j.toNatClampNeg (.int x) = arrV cA n (fun q => .int (kh_up ρ k 0 i j.toNatClampNeg x k 0 i q)) := by
  rw [arrV_store]
  congr 1
  funext q
  by_cases hq : q = j.toNatClampNeg
  · subst hq
    simp [updV, kh_up_self]
  · rw [kh_up_ne (fun h => hq h.2.2.2)]
    simp [updV, hq]
theorem kh_iast (C : kh_C p s m args c cc nL own Ts D ca A) (hw : kh_w D ca A ad ρ H) (hS0 : va_S A s.heap H locs) (k : Nat) {i n q : Nat} {z : Value} {j x : Int32} (hz : z = .ref (ad k i)) (hi : i < kh_n ρ k) (hk61 : k ≠ 61) (hkd : kh_kd k = (1, q, n)) (hj : kh_in j n = true) (hdg : decode cc pc = .ok (.iastore, 1))
    (kk : ∀ (H1 : Heap) (locs1 : List Loc), kh_w D ca A ad (kh_up ρ k 0 i j.toNatClampNeg x) H1 → va_S A s.heap H1 locs1 → W p l e R s m args below meth c H1 locs1 cells slots Q (F0 m (pc + 1) ls rest)) : W p l e R s m args below meth c H locs cells slots Q (F0 m pc ls (.int x :: .int j :: z :: rest)) := by
  subst hz
  obtain ⟨hx, hb, -, hown, -, hK, -⟩ := C
  have hA := (hK.2.1 k (by simp [hkd])).1
  rw [show kh_ty k = .int by simp [kh_ty, hkd]] at hA
  refine W.iast hx hb (kh_arr hw hi (Or.inl hkd)) (hA _ _) (fun q => by cases q) (by rw [arrV_size]; exact kh_in_vp hj) rfl rfl hdg fun H1 e z oq => ?_
  refine kk H1 _ (hw.put hk61 hi oq ?_) (hS0.put z oq (hw.1 k i hi).2)
  rw [show kh_e ca ad (kh_up ρ k 0 i j.toNatClampNeg x) k i = .inl (ca k, n, .inl (kh_up ρ k 0 i j.toNatClampNeg x k 0 i)) by simp [kh_e, hkd]]
  exact e.trans (congrArg some kh_arr_up)
theorem kh_zast (C : kh_C p s m args c cc nL own Ts D ca A) (hw : kh_w D ca A ad ρ H) (hS0 : va_S A s.heap H locs) (k : Nat) {i n q : Nat} {z : Value} {j x : Int32} (hz : z = .ref (ad k i)) (hi : i < kh_n ρ k) (hk61 : k ≠ 61) (hkd : kh_kd k = (2, q, n)) (hj : kh_in j n = true) (hx : kh_b x = true) (hdg : decode cc pc = .ok (.bastore, 1))
    (kk : ∀ (H1 : Heap) (locs1 : List Loc), kh_w D ca A ad (kh_up ρ k 0 i j.toNatClampNeg x) H1 → va_S A s.heap H1 locs1 → W p l e R s m args below meth c H1 locs1 cells slots Q (F0 m (pc + 1) ls rest)) : W p l e R s m args below meth c H locs cells slots Q (F0 m pc ls (.int x :: .int j :: z :: rest)) := by
  subst hz
  obtain ⟨hxe, hb, -, hown, -, hK, -⟩ := C
  have hA := (hK.2.1 k (by simp [hkd])).1
  rw [show kh_ty k = .boolean by simp [kh_ty, hkd]] at hA
  refine W.zast hxe hb (kh_arr hw hi (Or.inr hkd)) (hA _ _) (fun q => by cases q) (by rw [arrV_size]; exact kh_in_vp hj) rfl rfl hdg fun H1 e z oq => ?_
  refine kk H1 _ (hw.put hk61 hi oq ?_) (hS0.put z oq (hw.1 k i hi).2)
  rw [show kh_e ca ad (kh_up ρ k 0 i j.toNatClampNeg x) k i = .inl (ca k, n, .inl (kh_up ρ k 0 i j.toNatClampNeg x k 0 i)) by simp [kh_e, hkd]]
  rw [(kh_b_ok hx).1] at e
  exact e.trans (congrArg some kh_arr_up)
theorem kh_aald (C : kh_C p s m args c cc nL own Ts D ca A) (hw : kh_w D ca A ad ρ H) (k : Nat) {i n kt : Nat} {z : Value} {j : Int32} {Cr : String} (hz : z = .ref (ad k i)) (hi : i < kh_n ρ k) (hkd : kh_kd k = (4, kt, n)) (hty : kh_ty k = .object Cr) (hj : kh_in j n = true) (hdg : decode cc pc = .ok (.aaload, 1))
    (kk : W p l e R s m args below meth c H locs cells slots Q (F0 m (pc + 1) ls (va_rf (kh_rc ad kt (ρ k 0 i j.toNatClampNeg)) :: rest))) : W p l e R s m args below meth c H locs cells slots Q (F0 m pc ls (.int j :: z :: rest)) := by
  subst hz
  obtain ⟨hx, hb, -, hown, -, hK, -⟩ := C
  have hA := (hK.2.1 k (by simp [hkd])).1
  rw [hty] at hA
  have h1 := (hw.1 k i hi).1
  rw [show kh_e ca ad ρ k i = .inl (ca k, n, .inr (.inr (.inr (.inr (fun j => kh_rc ad kt (ρ k 0 i j)))))) by simp [kh_e, hkd]] at h1
  have h2 : H[ad k i]? = some (arrV (ca k) n (fun j => va_rf (kh_rc ad kt (ρ k 0 i j)))) := h1
  exact W.aald (v := va_rf (kh_rc ad kt (ρ k 0 i j.toNatClampNeg))) (ty := .object Cr) hx hb h2 (hA _ _) rfl (fun q => by cases q) (by rw [arrV_size]; exact kh_in_vp hj) (by rw [arrV_read _ _ (kh_in_lt hj)]) rfl rfl hdg kk
theorem kh_istore_n (hx : p.tables.exec = Jvm.exec) (hb : c.code = cc) {k : Fin 4} {i : Nat} {x : Int32} {lv lv' : List (Nat × Value)} (hdg : decode cc pc = .ok (.istore_n k, 1)) (hi : (k : Nat) = i) (h : kh_lv ls nL lv) (hn : i < nL) (hl : (i, Value.int x) :: lv.filter (fun q => !(q.1 == i)) = lv')
    (kk : ∀ ls' : Array Slot, kh_lv ls' nL lv' → W p l e R s m args below meth c H locs cells slots Q (F0 m (pc + 1) ls' rest)) : W p l e R s m args below meth c H locs cells slots Q (F0 m pc ls (.int x :: rest)) :=
  lv_istore_n hx hb hdg hi h.1 hn rfl (fun ls' h' => kk ls' (kh_flt h rfl h' hl))
theorem kh_istore (hx : p.tables.exec = Jvm.exec) (hb : c.code = cc) {i : Nat} {x : Int32} {lv lv' : List (Nat × Value)} (hdg : decode cc pc = .ok (.istore i, 2)) (h : kh_lv ls nL lv) (hn : i < nL) (hl : (i, Value.int x) :: lv.filter (fun q => !(q.1 == i)) = lv')
    (kk : ∀ ls' : Array Slot, kh_lv ls' nL lv' → W p l e R s m args below meth c H locs cells slots Q (F0 m (pc + 2) ls' rest)) : W p l e R s m args below meth c H locs cells slots Q (F0 m pc ls (.int x :: rest)) :=
  lv_istore hx hb hdg h.1 hn rfl (fun ls' h' => kk ls' (kh_flt h rfl h' hl))
theorem kh_iinc (hx : p.tables.exec = Jvm.exec) (hb : c.code = cc) {i k : Nat} {n : Int} {x v : Int32} {lv lv' : List (Nat × Value)} (hdg : decode cc pc = .ok (.iinc i n, 3)) (h : kh_lv ls nL lv) (hk : lv[k]? = some (i, .int x)) (hv : x + Int32.ofInt n = v) (hn : i < nL) (hl : (i, Value.int v) :: lv.filter (fun q => !(q.1 == i)) = lv')
    (kk : ∀ ls' : Array Slot, kh_lv ls' nL lv' → W p l e R s m args below meth c H locs cells slots Q (F0 m (pc + 3) ls' rest)) : W p l e R s m args below meth c H locs cells slots Q (F0 m pc ls rest) :=
  lv_iinc hx hb hdg h.1 hk hv hn rfl (fun ls' h' => kk ls' (kh_flt h rfl h' hl))
/-! references as values -/
theorem kh_aload_n (hx : p.tables.exec = Jvm.exec) (hb : c.code = cc) {k : Fin 4} {i : Nat} {r : Option Nat} (hdg : decode cc pc = .ok (.aload_n k, 1)) (hi : (k : Nat) = i) (hl : ls[i]? = some (.val (va_rf r)))
    (kk : W p l e R s m args below meth c H locs cells slots Q (F0 m (pc + 1) ls (va_rf r :: rest))) : W p l e R s m args below meth c H locs cells slots Q (F0 m pc ls rest) := by
  cases r with
  | none => exact lv_aload_nN hx hb hdg hi hl kk
  | some a => exact lv_aload_n hx hb hdg hi hl kk
theorem kh_aload (hx : p.tables.exec = Jvm.exec) (hb : c.code = cc) {i : Nat} {r : Option Nat} (hdg : decode cc pc = .ok (.aload i, 2)) (hl : ls[i]? = some (.val (va_rf r)))
    (kk : W p l e R s m args below meth c H locs cells slots Q (F0 m (pc + 2) ls (va_rf r :: rest))) : W p l e R s m args below meth c H locs cells slots Q (F0 m pc ls rest) := by
  cases r with
  | none => exact lv_aloadN hx hb hdg hl kk
  | some a => exact lv_aload hx hb hdg hl kk
theorem kh_astore_n (hx : p.tables.exec = Jvm.exec) (hb : c.code = cc) {k : Fin 4} {i : Nat} {r : Option Nat} {lv lv' : List (Nat × Value)} (hdg : decode cc pc = .ok (.astore_n k, 1)) (hi : (k : Nat) = i) (h : kh_lv ls nL lv) (hn : i < nL) (hl : (i, va_rf r) :: lv.filter (fun q => !(q.1 == i)) = lv')
    (kk : ∀ ls' : Array Slot, kh_lv ls' nL lv' → W p l e R s m args below meth c H locs cells slots Q (F0 m (pc + 1) ls' rest)) : W p l e R s m args below meth c H locs cells slots Q (F0 m pc ls (va_rf r :: rest)) := by
  cases r with
  | none => exact lv_astore_nN hx hb hdg hi h.1 hn rfl (fun ls' h' => kk ls' (kh_flt h rfl h' hl))
  | some a => exact lv_astore_n hx hb hdg hi h.1 hn rfl (fun ls' h' => kk ls' (kh_flt h rfl h' hl))
theorem kh_astore (hx : p.tables.exec = Jvm.exec) (hb : c.code = cc) {i : Nat} {r : Option Nat} {lv lv' : List (Nat × Value)} (hdg : decode cc pc = .ok (.astore i, 2)) (h : kh_lv ls nL lv) (hn : i < nL) (hl : (i, va_rf r) :: lv.filter (fun q => !(q.1 == i)) = lv')
    (kk : ∀ ls' : Array Slot, kh_lv ls' nL lv' → W p l e R s m args below meth c H locs cells slots Q (F0 m (pc + 2) ls' rest)) : W p l e R s m args below meth c H locs cells slots Q (F0 m pc ls (va_rf r :: rest)) := by
  cases r with
  | none => exact lv_astoreN hx hb hdg h.1 hn rfl (fun ls' h' => kk ls' (kh_flt h rfl h' hl))
  | some a => exact lv_astore hx hb hdg h.1 hn rfl (fun ls' h' => kk ls' (kh_flt h rfl h' hl))
theorem kh_ifnull (hx : p.tables.exec = Jvm.exec) (hb : c.code = cc) {k : Nat} {x : Int32} {off : Int} {tgt : Nat} (hdg : decode cc pc = .ok (.ifnull off, 3)) (ht : (pc : Int) + off = (tgt : Int))
    (kt : x < 0 → W p l e R s m args below meth c H locs cells slots Q (F0 m tgt ls rest)) (kf : ¬ x < 0 → W p l e R s m args below meth c H locs cells slots Q (F0 m (pc + 3) ls rest)) : W p l e R s m args below meth c H locs cells slots Q (F0 m pc ls (va_rf (kh_rc ad k x) :: rest)) := by
  by_cases h : x < 0
  · rw [kh_rc, if_pos h]; exact lv_ifnullN hx hb hdg ht (kt h)
  · rw [kh_rc, if_neg h]; exact lv_ifnull hx hb hdg (kf h)
theorem kh_ifnonnull (hx : p.tables.exec = Jvm.exec) (hb : c.code = cc) {k : Nat} {x : Int32} {off : Int} {tgt : Nat} (hdg : decode cc pc = .ok (.ifnonnull off, 3)) (ht : (pc : Int) + off = (tgt : Int))
    (kt : ¬ x < 0 → W p l e R s m args below meth c H locs cells slots Q (F0 m tgt ls rest)) (kf : x < 0 → W p l e R s m args below meth c H locs cells slots Q (F0 m (pc + 3) ls rest)) : W p l e R s m args below meth c H locs cells slots Q (F0 m pc ls (va_rf (kh_rc ad k x) :: rest)) := by
  by_cases h : x < 0
  · rw [kh_rc, if_pos h]; exact lv_ifnonnullN hx hb hdg (kf h)
  · rw [kh_rc, if_neg h]; exact lv_ifnonnull hx hb hdg ht (kt h)
theorem kh_rc_inj (hw : kh_w D ca A ad ρ H) {k : Nat} {x y : Int32} (hx : kh_in x (kh_n ρ k) = true) (hy : kh_in y (kh_n ρ k) = true) : kh_rc ad k x = kh_rc ad k y ↔ x = y := by
  constructor
  · intro h
    rw [kh_rc, kh_rc, if_neg (kh_in_nn hx), if_neg (kh_in_nn hy)] at h
    have h1 := (hw.2 k _ k _ (kh_in_lt hx) (kh_in_lt hy) (Option.some.inj h)).2
    have nx := kh_in_nn hx
    have ny := kh_in_nn hy
    rw [Int32.lt_iff_toInt_lt, Int32.toInt_zero] at nx ny
    refine Int32.toInt_inj.mp ?_
    have e : ∀ z : Int32, z.toNatClampNeg = z.toInt.toNat := fun _ => rfl
    rw [e, e] at h1
    omega
  · intro h; rw [h]
theorem kh_acmp_ne (C : kh_C p s m args c cc nL own Ts D ca A) (hw : kh_w D ca A ad ρ H) {k : Nat} {x y : Int32} (hx : kh_in x (kh_n ρ k) = true) (hy : kh_in y (kh_n ρ k) = true) {off : Int} {tgt : Nat} (hdg : decode cc pc = .ok (.if_acmp .ne off, 3)) (ht : (pc : Int) + off = (tgt : Int))
    (kt : ¬ x = y → W p l e R s m args below meth c H locs cells slots Q (F0 m tgt ls rest)) (kf : x = y → W p l e R s m args below meth c H locs cells slots Q (F0 m (pc + 3) ls rest)) : W p l e R s m args below meth c H locs cells slots Q (F0 m pc ls (va_rf (kh_rc ad k y) :: va_rf (kh_rc ad k x) :: rest)) :=
  lv_acmp_ne C.1 C.2.1 hdg ht (fun h => kt (fun z => h ((kh_rc_inj hw hx hy).mpr z))) (fun h => kf ((kh_rc_inj hw hx hy).mp h))
/-- the receiver of a call is there -/
theorem kh_recv (hK : kh_K D ca s) (hw : kh_w D ca A ad ρ H) (k : Nat) {i ci N : Nat} {Cn : String} {T : u_T} (hi : i < kh_n ρ k) (hkd : kh_kd k = (0, ci, 0)) (hc : vwCl[ci]? = some (Cn, T, N)) : ∃ cellB : Cell, H[ad k i]? = some cellB ∧ cellB.vm.isStatics = false ∧ s.vm.findClass Cn = some cellB.cls := by
  have h1 := (hw.1 k i hi).1
  rw [show kh_e ca ad ρ k i = .inr (ci, kh_fs ad ρ k i 0 (kh_ds k)) by simp only [kh_e, hkd, if_true]] at h1
  obtain ⟨r, hr0, cell, q1, q2, q3, -⟩ := h1
  have hr : r = (Cn, T, N) := Option.some.inj (hr0.symm.trans hc)
  subst hr
  exact ⟨cell, q1, by rw [q3]; rfl, by rw [q2]; exact (hK.1.1 ci _ hc).2.1⟩
theorem kh_pre (C : kh_C p s m args c cc nL own Ts D ca A) (hw : kh_w D ca A ad ρ H) (hS : va_S A s.heap H locs) {as : List Value} (U : State) (hU : U.heap = H) (hW : s.WarmedH U.vm) : va_Pc as (kh_I D ca A ad ρ) as.toArray U :=
  ⟨rfl, kh_K.moved hW C.2.2.2.2.2.1, by rw [hU]; exact hw, fun q h => C.2.2.2.2.2.2 q (Nat.le_trans hS.1 (by rw [← hU]; exact h))⟩
theorem kh_preV (C : kh_C p s m args c cc nL own Ts D ca A) (hw : kh_w D ca A ad ρ H) (hS : va_S A s.heap H locs) (k : Nat) {i ci N : Nat} {Cn : String} {T : u_T} {As : List Value} (hi : i < kh_n ρ k) (hkd : kh_kd k = (0, ci, 0)) (hc : vwCl[ci]? = some (Cn, T, N)) : PreV s H Cn (ad k i) (va_Pc (.ref (ad k i) :: As) (kh_I D ca A ad ρ)) As :=
  ⟨kh_blind, kh_recv C.2.2.2.2.2.1 hw k hi hkd hc, fun U hU hW => kh_pre C hw hS U hU hW⟩
theorem kh_preS (C : kh_C p s m args c cc nL own Ts D ca A) (hw : kh_w D ca A ad ρ H) (hS : va_S A s.heap H locs) {As : List Value} : PreS s H (va_Pc As (kh_I D ca A ad ρ)) As :=
  ⟨kh_blind, fun U hU hW => kh_pre C hw hS U hU hW⟩
end KHR
/-! contracts: a method that reads and writes the world as the partial function F says -/
abbrev kh_Qi (D : va_G) (ca : Nat → ClassId) (A : Nat → Prop) (ad : Nat → Nat → Nat) (F : Option (Int32 × kh_S)) : Array Value → State → Outcome → State → Prop := va_Qi (fun (r : Int32) (u : kh_S) => F = some (r, u)) (fun u t => kh_w D ca A ad u t.heap) A
abbrev kh_Qv (D : va_G) (ca : Nat → ClassId) (A : Nat → Prop) (ad : Nat → Nat → Nat) (F : Option kh_S) : Array Value → State → Outcome → State → Prop := va_Qv (fun (u : kh_S) => F = some u) (fun u t => kh_w D ca A ad u t.heap) A
abbrev kh_Qq (D : va_G) (ca : Nat → ClassId) (A : Nat → Prop) (ad : Nat → Nat → Nat) (k : Nat) (F : Option (Int32 × kh_S)) : Array Value → State → Outcome → State → Prop := va_Qq (fun (r : Option Nat) (u : Int32 × kh_S) => r = kh_rc ad k u.1 ∧ F = some u) (fun u t => kh_w D ca A ad u.2 t.heap) A
section KHC
variable {p : Program} {l : Launch} {e : Env} {R : Room} {s : State} {m : MethodId} {args : Array Value} {below : List Frame} {meth : Method} {c : Code} {H : Heap} {locs : List Loc} {cells slots : Nat} {Q : State → Prop}
variable {pc : Nat} {ls : Array Slot} {rest st0 : List Value} {D : va_G} {ca : Nat → ClassId} {A : Nat → Prop} {ad : Nat → Nat → Nat} {a : Array Value}
theorem kh_calli {F : Option (Int32 × kh_S)} {r : Int32} {ρ1 : kh_S} (hr : va_Run p l e R s m args below meth c H locs cells slots 0 0 (F0 m pc ls st0) rest (kh_Qi D ca A ad F a) A) (hS : va_S A s.heap H locs) (hF : F = some (r, ρ1))
    (kk : ∀ (H1 : Heap) (locs1 : List Loc), kh_w D ca A ad ρ1 H1 → va_S A s.heap H1 locs1 → W p l e R s m args below meth c H1 locs1 cells slots Q (F0 m (pc + 3) ls (.int r :: rest))) : W p l e R s m args below meth c H locs cells slots Q (F0 m pc ls st0) := by
  refine va_calli hr hS (fun q _ h => h) (fun q h => h) (fun r' u t H1 locs1 ht hvm hp hB hz hk hS1 => ?_)
  have h9 := hF.symm.trans hp
  obtain ⟨rfl, rfl⟩ := Prod.mk.inj (Option.some.inj h9)
  exact kk H1 locs1 (by rw [← ht]; exact hB) hS1
theorem kh_callv {F : Option kh_S} {ρ1 : kh_S} (hr : va_Run p l e R s m args below meth c H locs cells slots 0 0 (F0 m pc ls st0) rest (kh_Qv D ca A ad F a) A) (hS : va_S A s.heap H locs) (hF : F = some ρ1)
    (kk : ∀ (H1 : Heap) (locs1 : List Loc), kh_w D ca A ad ρ1 H1 → va_S A s.heap H1 locs1 → W p l e R s m args below meth c H1 locs1 cells slots Q (F0 m (pc + 3) ls rest)) : W p l e R s m args below meth c H locs cells slots Q (F0 m pc ls st0) := by
  refine va_callv hr hS (fun q _ h => h) (fun q h => h) (fun u t H1 locs1 ht hvm hp hB hz hk hS1 => ?_)
  have h9 := hF.symm.trans hp
  obtain rfl := Option.some.inj h9
  exact kk H1 locs1 (by rw [← ht]; exact hB) hS1
theorem kh_callq {F : Option (Int32 × kh_S)} {k : Nat} {r : Int32} {ρ1 : kh_S} (hr : va_Run p l e R s m args below meth c H locs cells slots 0 0 (F0 m pc ls st0) rest (kh_Qq D ca A ad k F a) A) (hS : va_S A s.heap H locs) (hF : F = some (r, ρ1))
    (kk : ∀ (H1 : Heap) (locs1 : List Loc), kh_w D ca A ad ρ1 H1 → va_S A s.heap H1 locs1 → W p l e R s m args below meth c H1 locs1 cells slots Q (F0 m (pc + 3) ls (va_rf (kh_rc ad k r) :: rest))) : W p l e R s m args below meth c H locs cells slots Q (F0 m pc ls st0) := by
  refine va_callq hr hS (fun q _ h => h) (fun q h => h) (fun r' u t H1 locs1 ht hvm hp hB hz hk hS1 => ?_)
  obtain ⟨rfl, hp⟩ := hp
  have h9 := hF.symm.trans hp
  obtain rfl := Option.some.inj h9
  exact kk H1 locs1 (by rw [← ht]; exact hB) hS1
end KHC
