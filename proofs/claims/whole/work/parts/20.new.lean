/-! rows for new objects -/
theorem kh_D1 {q : Nat} {e : va_E} : va_D (fun _ => True) [(q, e)] := by
  refine ⟨fun i j p x hi hj _ => ?_, fun _ _ _ => trivial⟩
  have h1 := (List.getElem?_eq_some_iff.mp hi).1
  have h2 := (List.getElem?_eq_some_iff.mp hj).1
  simp at h1 h2
  omega
theorem kh_adR6 {ad : Nat → Nat → Nat} {n q a b c d : Nat} : kh_adR ad n q a b c d 6 n = q := by simp [kh_adR]
theorem kh_adG11 {ad : Nat → Nat → Nat} {n q a : Nat} : kh_adG ad n q a 11 n = q := by simp [kh_adG]
theorem kh_adB14 {ad : Nat → Nat → Nat} {n q : Nat} : kh_adB ad n q 14 n = q := by simp [kh_adB]
theorem kh_newref {ad2 : Nat → Nat → Nat} {k N q : Nat} {x : Int32} (hx : kh_in x N = true) (h : ad2 k x.toNatClampNeg = q) : Value.ref q = va_rf (kh_rc ad2 k x) := by rw [kh_rf hx, h]
abbrev kh_QiN (D : va_G) (ca : Nat → ClassId) (A : Nat → Prop) (ad : Nat → Nat → Nat) (ρ : kh_S) (F : Option (Int32 × kh_S)) : Array Value → State → Outcome → State → Prop := va_Qi (fun (r : Int32) (u : (Nat → Nat → Nat) × kh_S) => F = some (r, u.2) ∧ kh_ag ad u.1 ρ) (fun u t => kh_w D ca A u.1 u.2 t.heap) A
abbrev kh_YiN (D : va_G) (ca : Nat → ClassId) (A : Nat → Prop) (ad : Nat → Nat → Nat) (ρ : kh_S) (F : Option ((String × kh_S) ⊕ (Int32 × kh_S))) : Array Value → State → Outcome → State → Prop := va_Qi (fun (r : Int32) (u : (Nat → Nat → Nat) × kh_S) => F = some (.inr (r, u.2)) ∧ kh_ag ad u.1 ρ) (fun u t => kh_w D ca A u.1 u.2 t.heap) A
theorem kh_notYiN {D : va_G} {ca : Nat → ClassId} {A : Nat → Prop} {ad : Nat → Nat → Nat} {ρ : kh_S} {a : Array Value} {F : Option ((String × kh_S) ⊕ (Int32 × kh_S))} {e : String × kh_S} (hF : F = some (.inl e)) (st₀ : State) (v : Option Value) (t : State) : ¬ kh_YiN D ca A ad ρ F a st₀ (.returned v) t := fun h => by
  obtain ⟨⟨r, u, -, ⟨hp, -⟩, -⟩, -⟩ := h
  exact absurd (hF.symm.trans hp) (fun z => nomatch z)
theorem kh_w.born {D : va_G} {ca : Nat → ClassId} {A : Nat → Prop} {ad : Nat → Nat → Nat} {ρ : kh_S} {H H1 : Heap} (hw : kh_w D ca A ad ρ H) (ho : ∀ q : Nat, q < H.size → H1[q]? = H[q]?) : kh_w D ca A ad ρ H1 :=
  ⟨fun k i hi => ⟨(hw.1 k i hi).1.kept (ho _ (hw.1 k i hi).1.lt), (hw.1 k i hi).2⟩, hw.2⟩
theorem kh_w.other {D : va_G} {ca : Nat → ClassId} {A B : Nat → Prop} {ad : Nat → Nat → Nat} {ρ : kh_S} {H : Heap} (hw : kh_w D ca A ad ρ H) (h : ∀ k i : Nat, i < kh_n ρ k → A (ad k i) → B (ad k i)) : kh_w D ca B ad ρ H :=
  ⟨fun k i hi => ⟨(hw.1 k i hi).1, h k i hi (hw.1 k i hi).2⟩, hw.2⟩
theorem kh_agrc {ad ad2 : Nat → Nat → Nat} {ρ : kh_S} {k : Nat} {x : Int32} (hag : kh_ag ad ad2 ρ) (h : kh_in x (kh_n ρ k) = true) : kh_rc ad k x = kh_rc ad2 k x := by
  rw [kh_rc, kh_rc, if_neg (kh_in_nn h), if_neg (kh_in_nn h), hag k _ (kh_in_lt h)]
theorem kh_agrcN {ad ad2 : Nat → Nat → Nat} {ρ : kh_S} {k : Nat} {x : Int32} (hag : kh_ag ad ad2 ρ) (h : (decide (x < 0) || kh_in x (kh_n ρ k)) = true) : kh_rc ad k x = kh_rc ad2 k x := by
  rw [Bool.or_eq_true, decide_eq_true_eq] at h
  rcases h with h | h
  · rw [kh_rc, kh_rc, if_pos h, if_pos h]
  · exact kh_agrc hag h
section KHN
variable {p : Program} {l : Launch} {e : Env} {R : Room} {s : State} {m : MethodId} {args : Array Value} {below : List Frame} {meth : Method} {c : Code} {H : Heap} {locs : List Loc} {cells slots : Nat} {Q : State → Prop}
variable {cc : ByteArray} {nL pc index : Nat} {own : String} {Ts : List Cond} {ls : Array Slot} {rest st0 : List Value} {D : va_G} {ca : Nat → ClassId} {A : Nat → Prop} {ad : Nat → Nat → Nat} {ρ : kh_S} {a : Array Value} {mc ms : Nat}
theorem kh_new (C : kh_C p s m args c cc nL own Ts D ca A) (hS : va_S A s.heap H locs) {ci N : Nat} {Cn : String} {T : u_T} {fs : List Value} (hc : vwCl[ci]? = some (Cn, T, N)) (ty : Nat → FieldType) (hty : ∀ k, k < N → parseFieldDescriptor (T k).2.2.1 = some (ty k)) (hfs : ∀ j, j < N → defaultValue (ty j) = vp_V fs j)
    (hcl : (Cond.classLink own index Cn).before args s = true) (hinst : (Cond.instantiable Cn N).before args s = true) (hini : (Cond.initialized Cn).before args s = true) (hcells : cells + 1 ≤ R.cells) (hslots : slots + N ≤ R.slots) (hdg : decode cc pc = .ok (.new index, 3))
    (kk : ∀ H1 : Heap, va_P D vwCl [(H.size, .inr (ci, fs))] H1 → H1.size = H.size + 1 → (∀ q : Nat, q < H.size → H1[q]? = H[q]?) → va_S A s.heap H1 locs → W p l e R s m args below meth c H1 locs (cells + 1) (slots + N) Q (F0 m (pc + 3) ls (.ref H.size :: rest))) : W p l e R s m args below meth c H locs cells slots Q (F0 m pc ls rest) := by
  obtain ⟨hx, hb, -, hown, -, hK, -⟩ := C
  have hKn := hK.1.1 ci _ hc
  refine W.newcK hx hb hown hcl hinst hini rfl hdg hcells hslots hKn.2.1 rfl fun H1 kC hkC e1 z1 o1 => ?_
  refine kk H1 (fun k x hk => ?_) z1 o1 ⟨Nat.le_trans hS.1 (by omega), fun x h1 h2 => (o1 x (Nat.lt_of_lt_of_le h1 hS.1)).trans (hS.2.1 x h1 h2), hS.2.2⟩
  have hz : k < 1 := (List.getElem?_eq_some_iff.mp hk).1
  rw [show k = 0 by omega] at hk
  cases hk
  exact ⟨_, hc, (u_born (args := args) ty (fun w h => hK.2.2.1 ci _ hc w h args) (fun w h => h) hKn hkC e1 hty).to hfs⟩
theorem kh_new2 (C : kh_C p s m args c cc nL own Ts D ca A) (hw : kh_w D ca A ad ρ H) (hS : va_S A s.heap H locs) {ci N : Nat} {Cn : String} {T : u_T} {fs : List Value} (hc : vwCl[ci]? = some (Cn, T, N)) (ty : Nat → FieldType) (hty : ∀ k, k < N → parseFieldDescriptor (T k).2.2.1 = some (ty k)) (hfs : ∀ j, j < N → defaultValue (ty j) = vp_V fs j)
    (hcl : (Cond.classLink own index Cn).before args s = true) (hinst : (Cond.instantiable Cn N).before args s = true) (hini : (Cond.initialized Cn).before args s = true) (hcells : cells + 1 ≤ R.cells) (hslots : slots + N ≤ R.slots) (hdg : decode cc pc = .ok (.new index, 3))
    (kk : ∀ (q : Nat) (H1 : Heap), kh_w D ca A ad ρ H1 → (∀ k i : Nat, i < kh_n ρ k → ad k i ≠ q) → q < H1.size → A q → va_P D vwCl [(q, .inr (ci, fs))] H1 → va_S A s.heap H1 locs → W p l e R s m args below meth c H1 locs (cells + 1) (slots + N) Q (F0 m (pc + 3) ls (.ref q :: rest))) : W p l e R s m args below meth c H locs cells slots Q (F0 m pc ls rest) :=
  kh_new C hS hc ty hty hfs hcl hinst hini hcells hslots hdg fun H1 hP hz ho hS1 => kk H.size H1 (hw.born ho) (fun k i hi => Nat.ne_of_lt (hw.1 k i hi).1.lt) (by omega) (C.2.2.2.2.2.2 _ hS.1) hP hS1
theorem kh_preVK (C : kh_C p s m args c cc nL own Ts D ca A) (hw : kh_w D ca A ad ρ H) (hS : va_S A s.heap H locs) {q : Nat} (hqz : q < H.size) (hqw : ∀ k i : Nat, i < kh_n ρ k → ad k i ≠ q) (k : Nat) {i ci N : Nat} {Cn : String} {T : u_T} {As : List Value} (hi : i < kh_n ρ k) (hkd : kh_kd k = (0, ci, 0)) (hc : vwCl[ci]? = some (Cn, T, N)) : PreV s H Cn (ad k i) (va_Pc (.ref (ad k i) :: As) (kh_I D ca (fun x => A x ∧ x ≠ q) ad ρ)) As :=
  ⟨kh_blind, kh_recv C.2.2.2.2.2.1 hw k hi hkd hc, fun U hU hW => ⟨rfl, kh_K.moved hW C.2.2.2.2.2.1, by rw [hU]; exact hw.other (fun k i hi h => ⟨h, hqw k i hi⟩), fun x h => ⟨C.2.2.2.2.2.2 x (Nat.le_trans hS.1 (by rw [← hU]; exact h)), by rw [hU] at h; exact Nat.ne_of_gt (Nat.lt_of_lt_of_le hqz h)⟩⟩⟩
theorem kh_calliK {q : Nat} {e9 : va_E} {F : Option (Int32 × kh_S)} {r : Int32} {ρ1 : kh_S} (hr : va_Run p l e R s m args below meth c H locs cells slots 0 0 (F0 m pc ls st0) rest (kh_Qi D ca (fun x => A x ∧ x ≠ q) ad F a) (fun x => A x ∧ x ≠ q)) (hS : va_S A s.heap H locs) (hqz : q < H.size) (hP : va_P D vwCl [(q, e9)] H) (hF : F = some (r, ρ1))
    (kk : ∀ (H1 : Heap) (locs1 : List Loc), kh_w D ca A ad ρ1 H1 → q < H1.size → va_P D vwCl [(q, e9)] H1 → va_S A s.heap H1 locs1 → W p l e R s m args below meth c H1 locs1 cells slots Q (F0 m (pc + 3) ls (.int r :: rest))) : W p l e R s m args below meth c H locs cells slots Q (F0 m pc ls st0) := by
  refine va_calli hr hS (fun q _ h => h.1) (fun q h => h.1) (fun r' u t H1 locs1 ht hvm hp hB hz hk hS1 => ?_)
  have h9 := hF.symm.trans hp
  obtain ⟨rfl, rfl⟩ := Prod.mk.inj (Option.some.inj h9)
  refine kk H1 locs1 (by rw [← ht]; exact hB.other (fun k i hi h => h.1)) (by omega) (fun k x hx => ?_) hS1
  have hk1 : k < 1 := (List.getElem?_eq_some_iff.mp hx).1
  rw [show k = 0 by omega] at hx
  cases hx
  exact (hP 0 _ rfl).kept (hk q hqz (fun h => h.2 rfl))
theorem kh_aast (C : kh_C p s m args c cc nL own Ts D ca A) (hw : kh_w D ca A ad ρ H) (hS : va_S A s.heap H locs) (k kt : Nat) {i n ci N : Nat} {z v : Value} {j x : Int32} {Cn : String} {T : u_T} (hz : z = .ref (ad k i)) (hi : i < kh_n ρ k) (hk61 : k ≠ 61) (hkd : kh_kd k = (4, kt, n)) (hty : kh_ty k = .object Cn) (hkt : kh_kd kt = (0, ci, 0)) (hc : vwCl[ci]? = some (Cn, T, N)) (hj : kh_in j n = true) (hv : v = va_rf (kh_rc ad kt x)) (hx : kh_in x (kh_n ρ kt) = true) (hdg : decode cc pc = .ok (.aastore, 1))
    (kk : ∀ (H1 : Heap) (locs1 : List Loc), kh_w D ca A ad (kh_up ρ k 0 i j.toNatClampNeg x) H1 → va_S A s.heap H1 locs1 → W p l e R s m args below meth c H1 locs1 cells slots Q (F0 m (pc + 1) ls rest)) : W p l e R s m args below meth c H locs cells slots Q (F0 m pc ls (v :: .int j :: z :: rest)) := by
  subst hz
  rw [hv, kh_rf hx]
  obtain ⟨hxe, hb, -, hown, -, hK, -⟩ := C
  have hA := hK.2.1 k (by simp [hkd])
  rw [hty] at hA
  have h1 := (hw.1 k i hi).1
  have he : ∀ ρ' : kh_S, kh_e ca ad ρ' k i = .inl (ca k, n, .inr (.inr (.inr (.inr (fun j => kh_rc ad kt (ρ' k 0 i j)))))) := fun ρ' => by simp [kh_e, hkd]
  rw [he] at h1
  have h2 : H[ad k i]? = some (arrV (ca k) n (fun j => va_rf (kh_rc ad kt (ρ k 0 i j)))) := h1
  obtain ⟨cellV, g1, g2, g3⟩ := kh_recv hK hw kt (kh_in_lt hx) hkt hc
  have g4 : cellV.vm = .none := by
    have h5 := (hw.1 kt _ (kh_in_lt hx)).1
    rw [show kh_e ca ad ρ kt x.toNatClampNeg = .inr (ci, kh_fs ad ρ kt x.toNatClampNeg 0 (kh_ds kt)) by simp only [kh_e, hkt, if_true]] at h5
    obtain ⟨r9, -, cell9, q1, -, q3, -⟩ := h5
    cases Option.some.inj (g1.symm.trans q1)
    exact q3
  have hcls := (hK.1.1 ci _ hc).2
  obtain ⟨kA, comp, k1, k2, k3, -⟩ := hA.2
  have hcomp : comp = D.1 ci := Option.some.inj (k3.symm.trans hcls.1)
  subst hcomp
  obtain ⟨kC, hkC, hkind⟩ := hcls.2
  have hcv : cellV.cls = D.1 ci := Option.some.inj (g3.symm.trans hcls.1)
  have hlt := kh_in_lt hj
  have h0 := kh_in_nn hj
  refine W.aast hxe hb h2 (fun q h => by cases h) (fun h => by cases h) k1 k2 rfl hkC ⟨h0, by rw [arrV_size]; exact hlt⟩ g1 (fun q h => by rw [g4] at h; cases h) (by rw [hcv]; exact hkC) (by rw [hcv]; exact va_assign ⟨hcls.1, kC, hkC, hkind⟩) rfl rfl hdg fun H1 e z oq => ?_
  refine kk H1 _ (hw.put hk61 hi oq ?_) (hS.put z oq (hw.1 k i hi).2)
  rw [he]
  show H1[ad k i]? = some (arrV (ca k) n (fun q => va_rf (kh_rc ad kt (kh_up ρ k 0 i j.toNatClampNeg x k 0 i q))))
  rw [e, arrV_store]
  congr 2
  funext q
  by_cases hq : q = j.toNatClampNeg
  · subst hq
    rw [kh_up_self, kh_rf hx]
    simp [updV]
  · rw [kh_up_ne (fun h => hq h.2.2.2)]
    simp [updV, hq]
theorem kh_callN {F : Option (Int32 × kh_S)} {r : Int32} {ρ1 : kh_S} (hr : va_Run p l e R s m args below meth c H locs cells slots mc ms (F0 m pc ls st0) rest (kh_QiN D ca A ad ρ F a) A) (hS : va_S A s.heap H locs) (hF : F = some (r, ρ1))
    (kk : ∀ (ad2 : Nat → Nat → Nat) (H1 : Heap) (locs1 : List Loc), kh_ag ad ad2 ρ → kh_w D ca A ad2 ρ1 H1 → va_S A s.heap H1 locs1 → W p l e R s m args below meth c H1 locs1 (cells + mc) (slots + ms) Q (F0 m (pc + 3) ls (.int r :: rest))) : W p l e R s m args below meth c H locs cells slots Q (F0 m pc ls st0) := by
  refine va_calli hr hS (fun q _ h => h) (fun q h => h) (fun r' u t H1 locs1 ht hvm hp hB hz hk hS1 => ?_)
  have h9 := hF.symm.trans hp.1
  obtain ⟨rfl, h8⟩ := Prod.mk.inj (Option.some.inj h9)
  exact kk u.1 H1 locs1 hp.2 (by rw [← ht, h8]; exact hB) hS1
theorem kh_xcallN {F : Option ((String × kh_S) ⊕ (Int32 × kh_S))} {r : Int32} {ρ1 : kh_S} (hr : vx_Run p l e R s m args below meth c H locs cells slots mc ms (F0 m pc ls st0) rest (kh_YiN D ca A ad ρ F a) (kh_X D ca A ad F) A) (hS : va_S A s.heap H locs) (hF : F = some (.inr (r, ρ1)))
    (kk : ∀ (ad2 : Nat → Nat → Nat) (H1 : Heap) (locs1 : List Loc), kh_ag ad ad2 ρ → kh_w D ca A ad2 ρ1 H1 → va_S A s.heap H1 locs1 → W p l e R s m args below meth c H1 locs1 (cells + mc) (slots + ms) Q (F0 m (pc + 3) ls (.int r :: rest))) : W p l e R s m args below meth c H locs cells slots Q (F0 m pc ls st0) := by
  intro T hT X
  rcases hr T hT X with ⟨v, st₀, t, T', L, h0, X', hL, e1, e2, ⟨⟨r9, u, hv, hp, hb⟩, hF9⟩, st⟩ | ⟨q, st₀, t, T', L, E9, ce, h0, X', hL, e1, e2, ⟨u, hp, hb, hF9⟩, hce, hcv, hcl, st⟩
  · cases hv
    obtain ⟨k1, k2, k3⟩ := vx_keep h0 e1 hS (fun q _ h => h) (fun q h => h) hL hF9
    have h9 := hF.symm.trans hp.1
    obtain ⟨rfl, h8⟩ := Prod.mk.inj (Sum.inr.inj (Option.some.inj h9))
    obtain ⟨t2, a1, b1⟩ := kk u.1 T'.heap (locs ++ L) hp.2 (by rw [e1, h8]; exact hb) k3 T' rfl X'
    exact ⟨t2, st t2 a1, b1⟩
  · exact absurd (hF.symm.trans hb.1) (fun z => nomatch z)
end KHN
