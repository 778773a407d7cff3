/-! rows for the law's own methods: a table of handlers, the row of longs -/
def kh_Nx (U : State) : Prop := va_Nc kh_E2 kh_E1 U ∧ va_Nc kh_E1 kh_E3 U ∧ va_Nc kh_E2 kh_E3 U
theorem kh_Nx.moved {u U : State} (hvm : u.vm.Alike U.vm) (h : kh_Nx u) : kh_Nx U := ⟨h.1.moved hvm, h.2.1.moved hvm, h.2.2.moved hvm⟩
def kh_JL (D : va_G) (ca : Nat → ClassId) (A : Nat → Prop) (ad : Nat → Nat → Nat) (ρ : kh_S) (U : State) : Prop := kh_J D ca A ad ρ U ∧ kh_Nx U
theorem kh_blindN {D : va_G} {ca : Nat → ClassId} {A : Nat → Prop} {ad : Nat → Nat → Nat} {ρ : kh_S} {as : List Value} : FrameBlind (va_Pc as (kh_JL D ca A ad ρ)) :=
  fun a U g mk q => ⟨q.1, (kh_blindJ (as := as) a U g mk ⟨q.1, q.2.1⟩).2, kh_Nx.moved (U := U.calling g mk a) (State.WarmedH.refl U).alike q.2.2⟩
theorem kh_ofWH {l : Launch} {y : MethodName} {ws ws' : List Cond} {rm : Room} {Pc : Array Value → State → Prop} {Qc : Array Value → State → Outcome → State → Prop} {mc ms : Nat} {free : Addr → Prop} {cc : ByteArray} {maxL : Nat} {ret : Option FieldType} {hh : List (Nat × Nat × Nat × Nat)}
    (hy : plainName y.cls = true) (hw : ws = Cond.codeWith y cc maxL ret hh :: ws')
    (body : ∀ p e s m args below meth c s₁, BodyLoose p l y (headSpec ws rm) cc maxL ret e s m args below meth c s₁ → c.maxLocals = maxL → c.exceptionTable.toList = tableOf hh → Pc args s →
      W p l e (headSpec ws rm).room s m args below meth c s.heap [] 0 0 (MQ below Qc args s mc ms free) (entryFrame m args maxL)) : Met l y ws rm Pc Qc mc ms free := by
  refine MetFree.of_bodyS (code := cc) (maxLocals := maxL) (ret := ret) hy ?_ ?_
  · intro args s m h hn
    obtain ⟨m9, meth, c, hn9, h1, h2, h3, h4, -, h5, h6, -⟩ := Cond.codeWith_spec (atoms_spec (ws := ws) h _ (by rw [hw]; exact List.mem_cons_self))
    cases hn.symm.trans hn9
    exact ⟨meth, c, h1, h2, h3, h4, h5, h6⟩
  · intro p e s m args below meth c s₁ B hml hP _
    have hh0 : s₁.heap = s.heap := by rw [B.state]; rfl
    have ht := vx_table (x := y) B (atoms_spec (ws := ws) B.pre _ (by rw [hw]; exact List.mem_cons_self))
    obtain ⟨t, a1, o, b1, b2, b3⟩ := body p e s m args below meth c s₁ B hml ht hP s₁ hh0 (Stand.of_body B)
    exact ⟨t, o, a1, b1, b2, ⟨b3.1, b3.2⟩⟩
theorem kh_agr (ad : Nat → Nat → Nat) (ρ : kh_S) : kh_ag ad ad ρ := fun _ _ _ => rfl
/-- what a call of the law's own methods gives: the answer's number and the world after it -/
def kh_hx {α : Type} (x : Option ((String × kh_S) ⊕ α)) (g : String → Option Int32) (f : α → Option (Int32 × kh_S)) : Option (Int32 × kh_S) := match x with
  | none => none
  | some (.inl e) => (g e.1).map fun k => (k, e.2)
  | some (.inr a) => f a
theorem kh_hx_ok {α : Type} {x : Option ((String × kh_S) ⊕ α)} {g : String → Option Int32} {f : α → Option (Int32 × kh_S)} {y : Int32 × kh_S} (h : kh_hx x g f = some y) : (∃ (E : String) (ρ1 : kh_S), x = some (.inl (E, ρ1)) ∧ g E = some y.1 ∧ y.2 = ρ1) ∨ ∃ a, x = some (.inr a) ∧ f a = some y := by
  cases x with
  | none => cases h
  | some a => cases a with
    | inl e =>
      refine Or.inl ⟨e.1, e.2, rfl, ?_⟩
      have h1 : (g e.1).map (fun k => (k, e.2)) = some y := h
      cases hg : g e.1 with
      | none => rw [hg] at h1; cases h1
      | some k =>
        rw [hg] at h1
        cases h1
        exact ⟨rfl, rfl⟩
    | inr a => exact Or.inr ⟨a, rfl, h⟩
section KHLR
variable {p : Program} {l : Launch} {e : Env} {R : Room} {s : State} {m : MethodId} {args : Array Value} {below : List Frame} {meth : Method} {c : Code} {H : Heap} {locs : List Loc} {cells slots : Nat} {Q : State → Prop}
variable {cc : ByteArray} {nL pc index : Nat} {own : String} {Ts : List Cond} {ls : Array Slot} {rest st0 : List Value} {D : va_G} {ca : Nat → ClassId} {A : Nat → Prop} {ad : Nat → Nat → Nat} {ρ : kh_S}
theorem kh_arrL (hw : kh_w D ca A ad ρ H) {k i n q : Nat} (hi : i < kh_n ρ k) (hkd : kh_kd k = (3, q, n)) : H[ad k i]? = some (arrV (ca k) n (fun j => .long (ρ k 0 i j).toInt64)) := by
  have h1 := (hw.1 k i hi).1
  rw [show kh_e ca ad ρ k i = .inl (ca k, n, .inr (.inl (fun j => (ρ k 0 i j).toInt64))) by simp [kh_e, hkd]] at h1
  exact h1
theorem kh_lald (C : kh_C p s m args c cc nL own Ts D ca A) (hw : kh_w D ca A ad ρ H) (k : Nat) {i n q : Nat} {z : Value} {j : Int32} (hz : z = .ref (ad k i)) (hi : i < kh_n ρ k) (hkd : kh_kd k = (3, q, n)) (hj : kh_in j n = true) (hdg : decode cc pc = .ok (.laload, 1))
    (kk : W p l e R s m args below meth c H locs cells slots Q (F0 m (pc + 1) ls (.long (ρ k 0 i j.toNatClampNeg).toInt64 :: rest))) : W p l e R s m args below meth c H locs cells slots Q (F0 m pc ls (.int j :: z :: rest)) := by
  subst hz
  obtain ⟨hx, hb, -, hown, -, hK, -⟩ := C
  have hA := (hK.2.1 k (by simp [hkd])).1
  rw [show kh_ty k = .long by simp [kh_ty, hkd]] at hA
  exact W.lald (v := .long (ρ k 0 i j.toNatClampNeg).toInt64) hx hb (kh_arrL hw hi hkd) (hA _ _) (fun q => by cases q) (by rw [arrV_size]; exact kh_in_vp hj) (by rw [arrV_read _ _ (kh_in_lt hj)]) rfl rfl hdg kk
theorem kh_last (C : kh_C p s m args c cc nL own Ts D ca A) (hw : kh_w D ca A ad ρ H) (hS0 : va_S A s.heap H locs) (k : Nat) {i n q : Nat} {z : Value} {j x : Int32} {v : Int64} (hz : z = .ref (ad k i)) (hi : i < kh_n ρ k) (hk61 : k ≠ 61) (hkd : kh_kd k = (3, q, n)) (hj : kh_in j n = true) (hv : v = x.toInt64) (hdg : decode cc pc = .ok (.lastore, 1))
    (kk : ∀ (H1 : Heap) (locs1 : List Loc), kh_w D ca A ad (kh_up ρ k 0 i j.toNatClampNeg x) H1 → va_S A s.heap H1 locs1 → W p l e R s m args below meth c H1 locs1 cells slots Q (F0 m (pc + 1) ls rest)) : W p l e R s m args below meth c H locs cells slots Q (F0 m pc ls (.long v :: .int j :: z :: rest)) := by
  subst hz hv
  obtain ⟨hx, hb, -, hown, -, hK, -⟩ := C
  have hA := (hK.2.1 k (by simp [hkd])).1
  rw [show kh_ty k = .long by simp [kh_ty, hkd]] at hA
  refine W.last hx hb (kh_arrL hw hi hkd) (hA _ _) (fun q => by cases q) (by rw [arrV_size]; exact kh_in_vp hj) rfl rfl hdg fun H1 e z oq => ?_
  refine kk H1 _ (hw.put hk61 hi oq ?_) (hS0.put z oq (hw.1 k i hi).2)
  rw [show kh_e ca ad (kh_up ρ k 0 i j.toNatClampNeg x) k i = .inl (ca k, n, .inr (.inl (fun q => (kh_up ρ k 0 i j.toNatClampNeg x k 0 i q).toInt64))) by simp [kh_e, hkd]]
  refine e.trans (congrArg some ?_)
  rw [arrV_store]
  show arrV (ca k) n _ = arrV (ca k) n (fun q => .long (kh_up ρ k 0 i j.toNatClampNeg x k 0 i q).toInt64)
  congr 1
  funext q
  by_cases hq : q = j.toNatClampNeg
  · subst hq
    simp [updV, kh_up_self]
  · rw [kh_up_ne (fun h => hq h.2.2.2)]
    simp [updV, hq]
end KHLR
