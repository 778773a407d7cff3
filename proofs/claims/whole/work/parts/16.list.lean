/-! constructors: worlds as lists -/
theorem kh_K.tys {D : va_G} {ca : Nat → ClassId} {U : State} (h : kh_K D ca U) (k : Nat) {ty : FieldType} (hk : (kh_kd k).1 ≠ 0) (hty : kh_ty k = ty) : va_K D vwCl [(ca k, ty)] U := by
  refine ⟨h.1.1, fun j q hq => ?_⟩
  have hj : j = 0 := by
    have := (List.getElem?_eq_some_iff.mp hq).1
    simp at this
    omega
  subst hj
  cases hq
  rw [← hty]
  exact h.2.1 k hk
section KHL
variable {p : Program} {l : Launch} {e : Env} {R : Room} {s : State} {m : MethodId} {args : Array Value} {below : List Frame} {meth : Method} {c : Code} {H : Heap} {locs : List Loc} {cells slots : Nat} {Q : State → Prop}
variable {cc : ByteArray} {nL pc : Nat} {own : String} {Ts : List Cond} {ls : Array Slot} {rest : List Value} {D : va_G} {ca : Nat → ClassId} {A : Nat → Prop} {ws : va_W} {H0 : Heap}
theorem kh_lnewa (hx : p.tables.exec = Jvm.exec) (hb : c.code = cc) (hK : kh_K D ca s) (k : Nat) {atype : ArrayType} {ty : FieldType} (hk : (kh_kd k).1 ≠ 0) (hkt : kh_ty k = ty) (hat : newarray.typeOf atype = ty) (ht : ty = .int ∨ ty = .boolean ∨ ty = .long) (harr : (Cond.arrayClass (newarray.typeOf atype)).before args s = true) (hP : va_P D vwCl ws H) (hD : va_D A ws) (hS : va_S A H0 H locs) (hA : ∀ q, H0.size ≤ q → A q)
    {n : Int32} {N : Nat} {a0 : vp_A} (ha : ∀ cA : ClassId, vp_cell cA a0 = arrV cA N (fun _ => defaultValue ty)) (hn : ¬ n < 0) (hN : n.toNatClampNeg = N) (hbytes : N * componentBytes ty ≤ 536870912) (hcells : cells + 1 ≤ R.cells) (hslots : slots + N ≤ R.slots) (hdg : decode cc pc = .ok (.newarray atype, 2))
    (kk : ∀ (q : Nat) (H1 : Heap), va_P D vwCl (ws ++ [(q, .inl (ca k, a0))]) H1 → va_D A (ws ++ [(q, .inl (ca k, a0))]) → va_S A H0 H1 locs → W p l e R s m args below meth c H1 locs (cells + 1) (slots + N) Q (F0 m (pc + 2) ls (.ref q :: rest))) : W p l e R s m args below meth c H locs cells slots Q (F0 m pc ls (.int n :: rest)) := by
  refine va_newa hx hb harr hat hK.1 hP hD hS hA (a0 := a0) ha hn hN hbytes hcells hslots hdg (fun q cA H1 hK1 hP1 hD1 hS1 => ?_)
  have h1 := (hK1.2 0 (cA, ty) rfl).2
  have h2 := (hK.2.1 k hk).2
  rw [hkt] at h2
  have e : cA = ca k := by
    rcases ht with rfl | rfl | rfl <;> exact Option.some.inj (Eq.trans (Eq.symm h1) h2)
  subst e
  exact kk q H1 hP1 hD1 hS1
theorem kh_lnewq (hx : p.tables.exec = Jvm.exec) (hb : c.code = cc) (hK : kh_K D ca s) (k : Nat) {Cr : String} {index : Nat} (hk : (kh_kd k).1 ≠ 0) (hkt : kh_ty k = .object Cr) (hown : s.vm.findClass own = some m.cls) (hclink : (Cond.classLink own index Cr).before args s = true) (hover : va_AO Cr s) (hP : va_P D vwCl ws H) (hD : va_D A ws) (hS : va_S A H0 H locs) (hA : ∀ q, H0.size ≤ q → A q)
    {n : Int32} {N : Nat} (hn : ¬ n < 0) (hN : n.toNatClampNeg = N) (hbytes : N * 4 ≤ 536870912) (hcells : cells + 1 ≤ R.cells) (hslots : slots + N ≤ R.slots) (hdg : decode cc pc = .ok (.anewarray index, 3))
    (kk : ∀ (q : Nat) (H1 : Heap), va_P D vwCl (ws ++ [(q, .inl (ca k, N, .inr (.inr (.inr (.inr (fun _ => none))))))]) H1 → va_D A (ws ++ [(q, .inl (ca k, N, .inr (.inr (.inr (.inr (fun _ => none))))))]) → va_S A H0 H1 locs → W p l e R s m args below meth c H1 locs (cells + 1) (slots + N) Q (F0 m (pc + 3) ls (.ref q :: rest))) : W p l e R s m args below meth c H locs cells slots Q (F0 m pc ls (.int n :: rest)) := by
  subst hN
  refine va_newq hx hb hown hclink hover hK.1 hP hD hS hA hn rfl hbytes hcells hslots hdg (fun q cA H1 hK1 hP1 hD1 hS1 => ?_)
  obtain ⟨kA, comp, -, -, -, h1⟩ := (hK1.2 0 (cA, .object Cr) rfl).2
  have h2 := (hK.2.1 k hk).2
  rw [hkt] at h2
  obtain ⟨kA2, comp2, -, -, -, h2⟩ := h2
  have e : cA = ca k := Option.some.inj (Eq.trans (Eq.symm h1) h2)
  subst e
  exact kk q H1 hP1 hD1 hS1
end KHL
def kh_AO (U : State) : Prop := va_AO RX2 U ∧ va_AO RX1 U ∧ va_AO RX0 U ∧ va_AO RX3 U
theorem kh_AO.moved {s U : State} (hW : s.WarmedH U.vm) (h : kh_AO s) : kh_AO U := ⟨va_AO.moved hW.alike h.1, va_AO.moved hW.alike h.2.1, va_AO.moved hW.alike h.2.2.1, va_AO.moved hW.alike h.2.2.2⟩
theorem kh_nrf {C : String} (r : Option Nat) : narrow (.object C) (va_rf r) = va_rf r ∧ fits (.object C) (va_rf r) = true := by cases r <;> exact ⟨rfl, rfl⟩
theorem kh_blindL {D : va_G} {ca : Nat → ClassId} {as : List Value} {sz : Nat} {ws : va_W} : FrameBlind (va_Pc as (fun U => kh_K D ca U ∧ U.heap.size = sz ∧ va_P D vwCl ws U.heap ∧ va_D (fun _ => True) ws)) :=
  fun a U g mk q => ⟨q.1, kh_K.moved (U := U.calling g mk a) (State.WarmedH.refl U) q.2.1, q.2.2⟩
theorem kh_blindO {D : va_G} {ca : Nat → ClassId} {as : List Value} {sz : Nat} {ws : va_W} : FrameBlind (va_Pc as (fun U => kh_AO U ∧ kh_K D ca U ∧ U.heap.size = sz ∧ va_P D vwCl ws U.heap ∧ va_D (fun _ => True) ws)) :=
  fun a U g mk q => ⟨q.1, kh_AO.moved (U := U.calling g mk a) (State.WarmedH.refl U) q.2.1, kh_K.moved (U := U.calling g mk a) (State.WarmedH.refl U) q.2.2.1, q.2.2.2⟩

abbrev kh_bX0_init (q : Nat) : va_W := [(q, .inr (0, [.null, .int 0, .int 0, .int 0]))]
abbrev kh_aX0_init (ca : Nat → ClassId) (q : Nat) (x1 : Option Nat) (x2 : Int32) (u : Unit) : va_W := [(q, .inr (0, [va_rf x1, .int x2, .int (0 : Int32), .int (-1 : Int32)]))]
set_option maxHeartbeats 4000000 in
set_option maxRecDepth 100000 in
theorem c_X0_init (l : Launch) (D : va_G) (ca : Nat → ClassId) (q sz : Nat) (x1 : Option Nat) (x2 : Int32) : Met l yX0_init wsX0_init ({ frames := 1, cells := 0, slots := 0, locals := 12 } : Room) (va_Pc [.ref q, va_rf x1, .int x2] (fun U => kh_K D ca U ∧ U.heap.size = sz ∧ va_P D vwCl (kh_bX0_init q) U.heap ∧ va_D (fun _ => True) (kh_bX0_init q))) (va_Qv (fun _ : Unit => True) (fun u t => va_P D vwCl (kh_aX0_init ca q x1 x2 u) t.heap ∧ va_D (va_A (kh_bX0_init q) sz) (kh_aX0_init ca q x1 x2 u)) (va_A (kh_bX0_init q) sz)) 0 0 (va_A (kh_bX0_init q) sz) := by
  refine Met.ofW (cc := cX0_init) (maxL := 3) (ret := none) (by decide) rfl ?_
  intro p e s m args below meth c s₁ B hml hv
  obtain ⟨rfl, hK, hsz, hP, hD0⟩ := hv
  have hx := B.exec
  have hb := B.bytes
  have hr := B.returns
  have hts := atoms_spec (ws := wsX0_init) B.pre
  have hown : s.vm.findClass RX0 = some m.cls := findClass_of_methodNamed B.named
  have hlocks := B.notSynchronized
  have hin : meth.name = "<init>" := (name_of_methodNamed B.named B.method).1
  subst hsz
  have hD := hD0.self (sz := s.heap.size)
  generalize hAe : va_A (kh_bX0_init q) s.heap.size = A at hD ⊢
  have hA : ∀ q : Nat, s.heap.size ≤ q → A q := fun q h => by rw [← hAe]; exact Or.inr h
  have hS : va_S A s.heap s.heap [] := va_S.rf
  have hl := kh_entry ([.ref q, va_rf x1, .int x2]) (n := 3) (kh_ac rfl (kh_ac (kh_c1 _) (kh_ac rfl kh_an))) (Nat.le_of_ble_eq_true rfl)
  rw [lg_entry_eq]
  generalize (lg_sl ([.ref q, va_rf x1, .int x2]) ++ List.replicate (3 - (lg_sl ([.ref q, va_rf x1, .int x2])).length) Slot.unset).toArray = ls at hl ⊢
  have hl : kh_lv ls 3 [(0, .ref q), (1, va_rf x1), (2, .int x2)] := hl
  have k_9 := hts (.fieldLink RX0 9 "KeylessHall$Booking" "how" "I") (by decide +kernel)
  have k_15 := hts (.fieldLink RX0 15 "KeylessHall$Booking" "groupNumber" "I") (by decide +kernel)
  have k_18 := hts (.fieldLink RX0 18 "KeylessHall$Booking" "place" "LKeylessHall$Room;") (by decide +kernel)
  have k_22 := hts (.fieldLink RX0 22 "KeylessHall$Booking" "begin" "I") (by decide +kernel)
  refine lv_aload_n hx hb dX0_init_0 rfl (kh_at hl 0 rfl) ?_
  refine W.objInit hx hb hown (hts (.methodLink RX0 3 objectInit) (by decide +kernel)) (hts (.instanceMethod objectInit) (by decide +kernel)) (hts (.code objectInit ⟨#[0xb1]⟩ 1 none) (by decide +kernel)) rfl (by rw [hml]; exact hl.1.1) rfl dX0_init_1 (Nat.le_of_ble_eq_true rfl) (Nat.le_of_ble_eq_true rfl) ?_
  refine W.eq (g2 := F0 m 4 ls []) rfl ?_
  refine lv_aload_n hx hb dX0_init_4 rfl (kh_at hl 0 rfl) ?_
  refine lv_iconst (v := (0 : Int32)) hx hb dX0_init_5 (by decide) ?_
  refine va_put (D := D) (ci := 0) (v := .int (0 : Int32)) (ty := .int) (C := RX0) (T := TX0) (N := 4) hx hb (Ts := u_ws RX0 TX0 4) (fun w h => hK.2.2.1 0 _ rfl w h _) (fun w h => h) tyX0 tyX0_ok nmX0 hown hK.1 hP hD hS 0 rfl rfl 2 (by decide) k_9 (fun _ h9 => h9) rfl (by decide +kernel) rfl rfl (Nat.le_of_ble_eq_true rfl) dX0_init_6 (fun H locs hP hD hS => ?_)
  have hP : va_P D vwCl [(q, .inr (0, [.null, .int 0, .int (0 : Int32), .int 0]))] H := hP
  have hD : va_D A [(q, .inr (0, [.null, .int 0, .int (0 : Int32), .int 0]))] := hD
  refine lv_aload_n hx hb dX0_init_9 rfl (kh_at hl 0 rfl) ?_
  refine lv_iconst (v := (-1 : Int32)) hx hb dX0_init_10 (by decide) ?_
  refine va_put (D := D) (ci := 0) (v := .int (-1 : Int32)) (ty := .int) (C := RX0) (T := TX0) (N := 4) hx hb (Ts := u_ws RX0 TX0 4) (fun w h => hK.2.2.1 0 _ rfl w h _) (fun w h => h) tyX0 tyX0_ok nmX0 hown hK.1 hP hD hS 0 rfl rfl 3 (by decide) k_15 (fun _ h9 => h9) rfl (by decide +kernel) rfl rfl (Nat.le_of_ble_eq_true rfl) dX0_init_11 (fun H locs hP hD hS => ?_)
  have hP : va_P D vwCl [(q, .inr (0, [.null, .int 0, .int (0 : Int32), .int (-1 : Int32)]))] H := hP
  have hD : va_D A [(q, .inr (0, [.null, .int 0, .int (0 : Int32), .int (-1 : Int32)]))] := hD
  refine lv_aload_n hx hb dX0_init_14 rfl (kh_at hl 0 rfl) ?_
  refine kh_aload_n hx hb dX0_init_15 rfl (kh_at hl 1 rfl) ?_
  refine va_putF (D := D) (ci := 0) (v := va_rf x1) (ty := .object "KeylessHall$Room") (C := RX0) (T := TX0) (N := 4) hx hb (Ts := u_ws RX0 TX0 4) (fun w h => hK.2.2.1 0 _ rfl w h _) (fun w h => h) tyX0 tyX0_ok nmX0 hown hK.1 hP hD hS 0 rfl rfl 0 (by decide) k_18 (fun _ h9 => h9) rfl hin rfl (by decide +kernel) (kh_nrf _).1 (kh_nrf _).2 (Nat.le_of_ble_eq_true rfl) dX0_init_16 (fun H locs hP hD hS => ?_)
  have hP : va_P D vwCl [(q, .inr (0, [va_rf x1, .int 0, .int (0 : Int32), .int (-1 : Int32)]))] H := hP
  have hD : va_D A [(q, .inr (0, [va_rf x1, .int 0, .int (0 : Int32), .int (-1 : Int32)]))] := hD
  refine lv_aload_n hx hb dX0_init_19 rfl (kh_at hl 0 rfl) ?_
  refine lv_iload_n hx hb dX0_init_20 rfl (kh_at hl 2 rfl) ?_
  refine va_putF (D := D) (ci := 0) (v := .int x2) (ty := .int) (C := RX0) (T := TX0) (N := 4) hx hb (Ts := u_ws RX0 TX0 4) (fun w h => hK.2.2.1 0 _ rfl w h _) (fun w h => h) tyX0 tyX0_ok nmX0 hown hK.1 hP hD hS 0 rfl rfl 1 (by decide) k_22 (fun _ h9 => h9) rfl hin rfl (by decide +kernel) rfl rfl (Nat.le_of_ble_eq_true rfl) dX0_init_21 (fun H locs hP hD hS => ?_)
  have hP : va_P D vwCl [(q, .inr (0, [va_rf x1, .int x2, .int (0 : Int32), .int (-1 : Int32)]))] H := hP
  have hD : va_D A [(q, .inr (0, [va_rf x1, .int x2, .int (0 : Int32), .int (-1 : Int32)]))] := hD
  exact W.vret hx hb hr (fun t ht hW => ⟨⟨(), rfl, trivial, by rw [ht]; exact hP, hD⟩, hS.F ht⟩) hS.2.2 dX0_init_24

abbrev kh_bX1_init (q : Nat) : va_W := [(q, .inr (1, [.int 0, .null, .int 0, .null, .int 0, .int 0, .int 0, .int 0, .int 0]))]
abbrev kh_aX1_init (ca : Nat → ClassId) (q : Nat) (x1 : Int32) (x2 : Option Nat) (x3 : Int32) (x4 : Int32) (x5 : Int32) (u : Nat) : va_W := [(q, .inr (1, [.int x1, va_rf x2, .int x3, .ref u, .int 0, .int 0, .int (0 : Int32), .int x4, .int x5])), (u, .inl (ca 12, 8, .inl (fun _ => 0)))]
set_option maxHeartbeats 4000000 in
set_option maxRecDepth 100000 in
theorem c_X1_init (l : Launch) (D : va_G) (ca : Nat → ClassId) (q sz : Nat) (x1 : Int32) (x2 : Option Nat) (x3 : Int32) (x4 : Int32) (x5 : Int32) : Met l yX1_init wsX1_init ({ frames := 1, cells := 1, slots := 8, locals := 12 } : Room) (va_Pc [.ref q, .int x1, va_rf x2, .int x3, .int x4, .int x5] (fun U => kh_K D ca U ∧ U.heap.size = sz ∧ va_P D vwCl (kh_bX1_init q) U.heap ∧ va_D (fun _ => True) (kh_bX1_init q))) (va_Qv (fun _ : Nat => True) (fun u t => va_P D vwCl (kh_aX1_init ca q x1 x2 x3 x4 x5 u) t.heap ∧ va_D (va_A (kh_bX1_init q) sz) (kh_aX1_init ca q x1 x2 x3 x4 x5 u)) (va_A (kh_bX1_init q) sz)) 1 8 (va_A (kh_bX1_init q) sz) := by
  refine Met.ofW (cc := cX1_init) (maxL := 6) (ret := none) (by decide) rfl ?_
  intro p e s m args below meth c s₁ B hml hv
  obtain ⟨rfl, hK, hsz, hP, hD0⟩ := hv
  have hx := B.exec
  have hb := B.bytes
  have hr := B.returns
  have hts := atoms_spec (ws := wsX1_init) B.pre
  have hown : s.vm.findClass RX1 = some m.cls := findClass_of_methodNamed B.named
  have hlocks := B.notSynchronized
  have hin : meth.name = "<init>" := (name_of_methodNamed B.named B.method).1
  subst hsz
  have hD := hD0.self (sz := s.heap.size)
  generalize hAe : va_A (kh_bX1_init q) s.heap.size = A at hD ⊢
  have hA : ∀ q : Nat, s.heap.size ≤ q → A q := fun q h => by rw [← hAe]; exact Or.inr h
  have hS : va_S A s.heap s.heap [] := va_S.rf
  have hl := kh_entry ([.ref q, .int x1, va_rf x2, .int x3, .int x4, .int x5]) (n := 6) (kh_ac rfl (kh_ac rfl (kh_ac (kh_c1 _) (kh_ac rfl (kh_ac rfl (kh_ac rfl kh_an)))))) (Nat.le_of_ble_eq_true rfl)
  rw [lg_entry_eq]
  generalize (lg_sl ([.ref q, .int x1, va_rf x2, .int x3, .int x4, .int x5]) ++ List.replicate (6 - (lg_sl ([.ref q, .int x1, va_rf x2, .int x3, .int x4, .int x5])).length) Slot.unset).toArray = ls at hl ⊢
  have hl : kh_lv ls 6 [(0, .ref q), (1, .int x1), (2, va_rf x2), (3, .int x3), (4, .int x4), (5, .int x5)] := hl
  have k_9 := hts (.fieldLink RX1 9 "KeylessHall$Group" "hintsFor" "[I") (by decide +kernel)
  have k_15 := hts (.fieldLink RX1 15 "KeylessHall$Group" "how" "I") (by decide +kernel)
  have k_19 := hts (.fieldLink RX1 19 "KeylessHall$Group" "number" "I") (by decide +kernel)
  have k_22 := hts (.fieldLink RX1 22 "KeylessHall$Group" "place" "LKeylessHall$Room;") (by decide +kernel)
  have k_26 := hts (.fieldLink RX1 26 "KeylessHall$Group" "arrival" "I") (by decide +kernel)
  have k_29 := hts (.fieldLink RX1 29 "KeylessHall$Group" "solved" "I") (by decide +kernel)
  have k_32 := hts (.fieldLink RX1 32 "KeylessHall$Group" "held" "I") (by decide +kernel)
  refine lv_aload_n hx hb dX1_init_0 rfl (kh_at hl 0 rfl) ?_
  refine W.objInit hx hb hown (hts (.methodLink RX1 3 objectInit) (by decide +kernel)) (hts (.instanceMethod objectInit) (by decide +kernel)) (hts (.code objectInit ⟨#[0xb1]⟩ 1 none) (by decide +kernel)) rfl (by rw [hml]; exact hl.1.1) rfl dX1_init_1 (Nat.le_of_ble_eq_true rfl) (Nat.le_of_ble_eq_true rfl) ?_
  refine W.eq (g2 := F0 m 4 ls []) rfl ?_
  refine lv_aload_n hx hb dX1_init_4 rfl (kh_at hl 0 rfl) ?_
  refine lv_bipush (v := (8 : Int32)) hx hb dX1_init_5 (by decide) ?_
  refine kh_lnewa hx hb hK 12 (atype := .int) (ty := .int) (N := 8) (a0 := (8, .inl (fun _ => 0))) (by decide) rfl rfl (Or.inl rfl) (hts (.arrayClass .int) (by decide +kernel)) hP hD hS hA (fun _ => rfl) (by decide) (by decide) (by decide +kernel) (Nat.le_of_ble_eq_true rfl) (Nat.le_of_ble_eq_true rfl) dX1_init_7 (fun a12 H hP hD hS => ?_)
  have hP : va_P D vwCl [(q, .inr (1, [.int 0, .null, .int 0, .null, .int 0, .int 0, .int 0, .int 0, .int 0])), (a12, .inl (ca 12, 8, .inl (fun _ => 0)))] H := hP
  have hD : va_D A [(q, .inr (1, [.int 0, .null, .int 0, .null, .int 0, .int 0, .int 0, .int 0, .int 0])), (a12, .inl (ca 12, 8, .inl (fun _ => 0)))] := hD
  refine W.widen (k := 1) (n := 8) (Nat.le_of_ble_eq_true rfl) (Nat.le_of_ble_eq_true rfl) ?_
  refine va_putF (D := D) (ci := 1) (v := .ref a12) (ty := .array .int) (C := RX1) (T := TX1) (N := 9) hx hb (Ts := u_ws RX1 TX1 9) (fun w h => hK.2.2.1 1 _ rfl w h _) (fun w h => h) tyX1 tyX1_ok nmX1 hown hK.1 hP hD hS 0 rfl rfl 3 (by decide) k_9 (fun _ h9 => h9) rfl hin rfl (by decide +kernel) rfl rfl (Nat.le_of_ble_eq_true rfl) dX1_init_9 (fun H locs hP hD hS => ?_)
  have hP : va_P D vwCl [(q, .inr (1, [.int 0, .null, .int 0, .ref a12, .int 0, .int 0, .int 0, .int 0, .int 0])), (a12, .inl (ca 12, 8, .inl (fun _ => 0)))] H := hP
  have hD : va_D A [(q, .inr (1, [.int 0, .null, .int 0, .ref a12, .int 0, .int 0, .int 0, .int 0, .int 0])), (a12, .inl (ca 12, 8, .inl (fun _ => 0)))] := hD
  refine lv_aload_n hx hb dX1_init_12 rfl (kh_at hl 0 rfl) ?_
  refine lv_iconst (v := (0 : Int32)) hx hb dX1_init_13 (by decide) ?_
  refine va_put (D := D) (ci := 1) (v := .int (0 : Int32)) (ty := .int) (C := RX1) (T := TX1) (N := 9) hx hb (Ts := u_ws RX1 TX1 9) (fun w h => hK.2.2.1 1 _ rfl w h _) (fun w h => h) tyX1 tyX1_ok nmX1 hown hK.1 hP hD hS 0 rfl rfl 6 (by decide) k_15 (fun _ h9 => h9) rfl (by decide +kernel) rfl rfl (Nat.le_of_ble_eq_true rfl) dX1_init_14 (fun H locs hP hD hS => ?_)
  have hP : va_P D vwCl [(q, .inr (1, [.int 0, .null, .int 0, .ref a12, .int 0, .int 0, .int (0 : Int32), .int 0, .int 0])), (a12, .inl (ca 12, 8, .inl (fun _ => 0)))] H := hP
  have hD : va_D A [(q, .inr (1, [.int 0, .null, .int 0, .ref a12, .int 0, .int 0, .int (0 : Int32), .int 0, .int 0])), (a12, .inl (ca 12, 8, .inl (fun _ => 0)))] := hD
  refine lv_aload_n hx hb dX1_init_17 rfl (kh_at hl 0 rfl) ?_
  refine lv_iload_n hx hb dX1_init_18 rfl (kh_at hl 1 rfl) ?_
  refine va_putF (D := D) (ci := 1) (v := .int x1) (ty := .int) (C := RX1) (T := TX1) (N := 9) hx hb (Ts := u_ws RX1 TX1 9) (fun w h => hK.2.2.1 1 _ rfl w h _) (fun w h => h) tyX1 tyX1_ok nmX1 hown hK.1 hP hD hS 0 rfl rfl 0 (by decide) k_19 (fun _ h9 => h9) rfl hin rfl (by decide +kernel) rfl rfl (Nat.le_of_ble_eq_true rfl) dX1_init_19 (fun H locs hP hD hS => ?_)
  have hP : va_P D vwCl [(q, .inr (1, [.int x1, .null, .int 0, .ref a12, .int 0, .int 0, .int (0 : Int32), .int 0, .int 0])), (a12, .inl (ca 12, 8, .inl (fun _ => 0)))] H := hP
  have hD : va_D A [(q, .inr (1, [.int x1, .null, .int 0, .ref a12, .int 0, .int 0, .int (0 : Int32), .int 0, .int 0])), (a12, .inl (ca 12, 8, .inl (fun _ => 0)))] := hD
  refine lv_aload_n hx hb dX1_init_22 rfl (kh_at hl 0 rfl) ?_
  refine kh_aload_n hx hb dX1_init_23 rfl (kh_at hl 2 rfl) ?_
  refine va_putF (D := D) (ci := 1) (v := va_rf x2) (ty := .object "KeylessHall$Room") (C := RX1) (T := TX1) (N := 9) hx hb (Ts := u_ws RX1 TX1 9) (fun w h => hK.2.2.1 1 _ rfl w h _) (fun w h => h) tyX1 tyX1_ok nmX1 hown hK.1 hP hD hS 0 rfl rfl 1 (by decide) k_22 (fun _ h9 => h9) rfl hin rfl (by decide +kernel) (kh_nrf _).1 (kh_nrf _).2 (Nat.le_of_ble_eq_true rfl) dX1_init_24 (fun H locs hP hD hS => ?_)
  have hP : va_P D vwCl [(q, .inr (1, [.int x1, va_rf x2, .int 0, .ref a12, .int 0, .int 0, .int (0 : Int32), .int 0, .int 0])), (a12, .inl (ca 12, 8, .inl (fun _ => 0)))] H := hP
  have hD : va_D A [(q, .inr (1, [.int x1, va_rf x2, .int 0, .ref a12, .int 0, .int 0, .int (0 : Int32), .int 0, .int 0])), (a12, .inl (ca 12, 8, .inl (fun _ => 0)))] := hD
  refine lv_aload_n hx hb dX1_init_27 rfl (kh_at hl 0 rfl) ?_
  refine lv_iload_n hx hb dX1_init_28 rfl (kh_at hl 3 rfl) ?_
  refine va_putF (D := D) (ci := 1) (v := .int x3) (ty := .int) (C := RX1) (T := TX1) (N := 9) hx hb (Ts := u_ws RX1 TX1 9) (fun w h => hK.2.2.1 1 _ rfl w h _) (fun w h => h) tyX1 tyX1_ok nmX1 hown hK.1 hP hD hS 0 rfl rfl 2 (by decide) k_26 (fun _ h9 => h9) rfl hin rfl (by decide +kernel) rfl rfl (Nat.le_of_ble_eq_true rfl) dX1_init_29 (fun H locs hP hD hS => ?_)
  have hP : va_P D vwCl [(q, .inr (1, [.int x1, va_rf x2, .int x3, .ref a12, .int 0, .int 0, .int (0 : Int32), .int 0, .int 0])), (a12, .inl (ca 12, 8, .inl (fun _ => 0)))] H := hP
  have hD : va_D A [(q, .inr (1, [.int x1, va_rf x2, .int x3, .ref a12, .int 0, .int 0, .int (0 : Int32), .int 0, .int 0])), (a12, .inl (ca 12, 8, .inl (fun _ => 0)))] := hD
  refine lv_aload_n hx hb dX1_init_32 rfl (kh_at hl 0 rfl) ?_
  refine lv_iload hx hb dX1_init_33 (kh_at hl 4 rfl) ?_
  refine va_put (D := D) (ci := 1) (v := .int x4) (ty := .int) (C := RX1) (T := TX1) (N := 9) hx hb (Ts := u_ws RX1 TX1 9) (fun w h => hK.2.2.1 1 _ rfl w h _) (fun w h => h) tyX1 tyX1_ok nmX1 hown hK.1 hP hD hS 0 rfl rfl 7 (by decide) k_29 (fun _ h9 => h9) rfl (by decide +kernel) rfl rfl (Nat.le_of_ble_eq_true rfl) dX1_init_35 (fun H locs hP hD hS => ?_)
  have hP : va_P D vwCl [(q, .inr (1, [.int x1, va_rf x2, .int x3, .ref a12, .int 0, .int 0, .int (0 : Int32), .int x4, .int 0])), (a12, .inl (ca 12, 8, .inl (fun _ => 0)))] H := hP
  have hD : va_D A [(q, .inr (1, [.int x1, va_rf x2, .int x3, .ref a12, .int 0, .int 0, .int (0 : Int32), .int x4, .int 0])), (a12, .inl (ca 12, 8, .inl (fun _ => 0)))] := hD
  refine lv_aload_n hx hb dX1_init_38 rfl (kh_at hl 0 rfl) ?_
  refine lv_iload hx hb dX1_init_39 (kh_at hl 5 rfl) ?_
  refine va_put (D := D) (ci := 1) (v := .int x5) (ty := .int) (C := RX1) (T := TX1) (N := 9) hx hb (Ts := u_ws RX1 TX1 9) (fun w h => hK.2.2.1 1 _ rfl w h _) (fun w h => h) tyX1 tyX1_ok nmX1 hown hK.1 hP hD hS 0 rfl rfl 8 (by decide) k_32 (fun _ h9 => h9) rfl (by decide +kernel) rfl rfl (Nat.le_of_ble_eq_true rfl) dX1_init_41 (fun H locs hP hD hS => ?_)
  have hP : va_P D vwCl [(q, .inr (1, [.int x1, va_rf x2, .int x3, .ref a12, .int 0, .int 0, .int (0 : Int32), .int x4, .int x5])), (a12, .inl (ca 12, 8, .inl (fun _ => 0)))] H := hP
  have hD : va_D A [(q, .inr (1, [.int x1, va_rf x2, .int x3, .ref a12, .int 0, .int 0, .int (0 : Int32), .int x4, .int x5])), (a12, .inl (ca 12, 8, .inl (fun _ => 0)))] := hD
  exact W.vret hx hb hr (fun t ht hW => ⟨⟨a12, rfl, trivial, by rw [ht]; exact hP, hD⟩, hS.F ht⟩) hS.2.2 dX1_init_44

abbrev kh_bX2_init (q : Nat) : va_W := [(q, .inr (2, [.int 0, .int 0, .null, .null, .null, .null, .int 0, .int 0, .int 0, .int 0, .int 0, .int 0, .null]))]
abbrev kh_aX2_init (ca : Nat → ClassId) (q : Nat) (x1 : Int32) (x2 : Int32) (u : Nat × Nat × Nat × Nat) : va_W := [(q, .inr (2, [.int x1, .int x2, .ref u.1, .ref u.2.1, .ref u.2.2.1, .ref u.2.2.2, .int 0, .int (5 : Int32), .int (0 : Int32), .int 0, .int 0, .int 0, .null])), (u.1, .inl (ca 7, 8, .inl (fun _ => 0))), (u.2.1, .inl (ca 8, 8, .inl (fun _ => 0))), (u.2.2.1, .inl (ca 9, 8, .inl (fun _ => 0))), (u.2.2.2, .inl (ca 10, 8, .inl (fun _ => 0)))]
set_option maxHeartbeats 4000000 in
set_option maxRecDepth 100000 in
theorem c_X2_init (l : Launch) (D : va_G) (ca : Nat → ClassId) (q sz : Nat) (x1 : Int32) (x2 : Int32) : Met l yX2_init wsX2_init ({ frames := 1, cells := 4, slots := 32, locals := 12 } : Room) (va_Pc [.ref q, .int x1, .int x2] (fun U => kh_K D ca U ∧ U.heap.size = sz ∧ va_P D vwCl (kh_bX2_init q) U.heap ∧ va_D (fun _ => True) (kh_bX2_init q))) (va_Qv (fun _ : Nat × Nat × Nat × Nat => True) (fun u t => va_P D vwCl (kh_aX2_init ca q x1 x2 u) t.heap ∧ va_D (va_A (kh_bX2_init q) sz) (kh_aX2_init ca q x1 x2 u)) (va_A (kh_bX2_init q) sz)) 4 32 (va_A (kh_bX2_init q) sz) := by
  refine Met.ofW (cc := cX2_init) (maxL := 3) (ret := none) (by decide) rfl ?_
  intro p e s m args below meth c s₁ B hml hv
  obtain ⟨rfl, hK, hsz, hP, hD0⟩ := hv
  have hx := B.exec
  have hb := B.bytes
  have hr := B.returns
  have hts := atoms_spec (ws := wsX2_init) B.pre
  have hown : s.vm.findClass RX2 = some m.cls := findClass_of_methodNamed B.named
  have hlocks := B.notSynchronized
  have hin : meth.name = "<init>" := (name_of_methodNamed B.named B.method).1
  subst hsz
  have hD := hD0.self (sz := s.heap.size)
  generalize hAe : va_A (kh_bX2_init q) s.heap.size = A at hD ⊢
  have hA : ∀ q : Nat, s.heap.size ≤ q → A q := fun q h => by rw [← hAe]; exact Or.inr h
  have hS : va_S A s.heap s.heap [] := va_S.rf
  have hl := kh_entry ([.ref q, .int x1, .int x2]) (n := 3) (kh_ac rfl (kh_ac rfl (kh_ac rfl kh_an))) (Nat.le_of_ble_eq_true rfl)
  rw [lg_entry_eq]
  generalize (lg_sl ([.ref q, .int x1, .int x2]) ++ List.replicate (3 - (lg_sl ([.ref q, .int x1, .int x2])).length) Slot.unset).toArray = ls at hl ⊢
  have hl : kh_lv ls 3 [(0, .ref q), (1, .int x1), (2, .int x2)] := hl
  have k_9 := hts (.fieldLink RX2 9 "KeylessHall$Room" "needs" "[I") (by decide +kernel)
  have k_15 := hts (.fieldLink RX2 15 "KeylessHall$Room" "gives" "[I") (by decide +kernel)
  have k_18 := hts (.fieldLink RX2 18 "KeylessHall$Room" "props" "[I") (by decide +kernel)
  have k_21 := hts (.fieldLink RX2 21 "KeylessHall$Room" "minutes" "[I") (by decide +kernel)
  have k_24 := hts (.fieldLink RX2 24 "KeylessHall$Room" "gap" "I") (by decide +kernel)
  have k_28 := hts (.fieldLink RX2 28 "KeylessHall$Room" "how" "I") (by decide +kernel)
  have k_31 := hts (.fieldLink RX2 31 "KeylessHall$Room" "number" "I") (by decide +kernel)
  have k_34 := hts (.fieldLink RX2 34 "KeylessHall$Room" "things" "I") (by decide +kernel)
  refine lv_aload_n hx hb dX2_init_0 rfl (kh_at hl 0 rfl) ?_
  refine W.objInit hx hb hown (hts (.methodLink RX2 3 objectInit) (by decide +kernel)) (hts (.instanceMethod objectInit) (by decide +kernel)) (hts (.code objectInit ⟨#[0xb1]⟩ 1 none) (by decide +kernel)) rfl (by rw [hml]; exact hl.1.1) rfl dX2_init_1 (Nat.le_of_ble_eq_true rfl) (Nat.le_of_ble_eq_true rfl) ?_
  refine W.eq (g2 := F0 m 4 ls []) rfl ?_
  refine lv_aload_n hx hb dX2_init_4 rfl (kh_at hl 0 rfl) ?_
  refine lv_bipush (v := (8 : Int32)) hx hb dX2_init_5 (by decide) ?_
  refine kh_lnewa hx hb hK 7 (atype := .int) (ty := .int) (N := 8) (a0 := (8, .inl (fun _ => 0))) (by decide) rfl rfl (Or.inl rfl) (hts (.arrayClass .int) (by decide +kernel)) hP hD hS hA (fun _ => rfl) (by decide) (by decide) (by decide +kernel) (Nat.le_of_ble_eq_true rfl) (Nat.le_of_ble_eq_true rfl) dX2_init_7 (fun a7 H hP hD hS => ?_)
  have hP : va_P D vwCl [(q, .inr (2, [.int 0, .int 0, .null, .null, .null, .null, .int 0, .int 0, .int 0, .int 0, .int 0, .int 0, .null])), (a7, .inl (ca 7, 8, .inl (fun _ => 0)))] H := hP
  have hD : va_D A [(q, .inr (2, [.int 0, .int 0, .null, .null, .null, .null, .int 0, .int 0, .int 0, .int 0, .int 0, .int 0, .null])), (a7, .inl (ca 7, 8, .inl (fun _ => 0)))] := hD
  refine W.widen (k := 1) (n := 8) (Nat.le_of_ble_eq_true rfl) (Nat.le_of_ble_eq_true rfl) ?_
  refine va_putF (D := D) (ci := 2) (v := .ref a7) (ty := .array .int) (C := RX2) (T := TX2) (N := 13) hx hb (Ts := u_ws RX2 TX2 13) (fun w h => hK.2.2.1 2 _ rfl w h _) (fun w h => h) tyX2 tyX2_ok nmX2 hown hK.1 hP hD hS 0 rfl rfl 2 (by decide) k_9 (fun _ h9 => h9) rfl hin rfl (by decide +kernel) rfl rfl (Nat.le_of_ble_eq_true rfl) dX2_init_9 (fun H locs hP hD hS => ?_)
  have hP : va_P D vwCl [(q, .inr (2, [.int 0, .int 0, .ref a7, .null, .null, .null, .int 0, .int 0, .int 0, .int 0, .int 0, .int 0, .null])), (a7, .inl (ca 7, 8, .inl (fun _ => 0)))] H := hP
  have hD : va_D A [(q, .inr (2, [.int 0, .int 0, .ref a7, .null, .null, .null, .int 0, .int 0, .int 0, .int 0, .int 0, .int 0, .null])), (a7, .inl (ca 7, 8, .inl (fun _ => 0)))] := hD
  refine lv_aload_n hx hb dX2_init_12 rfl (kh_at hl 0 rfl) ?_
  refine lv_bipush (v := (8 : Int32)) hx hb dX2_init_13 (by decide) ?_
  refine kh_lnewa hx hb hK 8 (atype := .int) (ty := .int) (N := 8) (a0 := (8, .inl (fun _ => 0))) (by decide) rfl rfl (Or.inl rfl) (hts (.arrayClass .int) (by decide +kernel)) hP hD hS hA (fun _ => rfl) (by decide) (by decide) (by decide +kernel) (Nat.le_of_ble_eq_true rfl) (Nat.le_of_ble_eq_true rfl) dX2_init_15 (fun a8 H hP hD hS => ?_)
  have hP : va_P D vwCl [(q, .inr (2, [.int 0, .int 0, .ref a7, .null, .null, .null, .int 0, .int 0, .int 0, .int 0, .int 0, .int 0, .null])), (a7, .inl (ca 7, 8, .inl (fun _ => 0))), (a8, .inl (ca 8, 8, .inl (fun _ => 0)))] H := hP
  have hD : va_D A [(q, .inr (2, [.int 0, .int 0, .ref a7, .null, .null, .null, .int 0, .int 0, .int 0, .int 0, .int 0, .int 0, .null])), (a7, .inl (ca 7, 8, .inl (fun _ => 0))), (a8, .inl (ca 8, 8, .inl (fun _ => 0)))] := hD
  refine W.widen (k := 2) (n := 16) (Nat.le_of_ble_eq_true rfl) (Nat.le_of_ble_eq_true rfl) ?_
  refine va_putF (D := D) (ci := 2) (v := .ref a8) (ty := .array .int) (C := RX2) (T := TX2) (N := 13) hx hb (Ts := u_ws RX2 TX2 13) (fun w h => hK.2.2.1 2 _ rfl w h _) (fun w h => h) tyX2 tyX2_ok nmX2 hown hK.1 hP hD hS 0 rfl rfl 3 (by decide) k_15 (fun _ h9 => h9) rfl hin rfl (by decide +kernel) rfl rfl (Nat.le_of_ble_eq_true rfl) dX2_init_17 (fun H locs hP hD hS => ?_)
  have hP : va_P D vwCl [(q, .inr (2, [.int 0, .int 0, .ref a7, .ref a8, .null, .null, .int 0, .int 0, .int 0, .int 0, .int 0, .int 0, .null])), (a7, .inl (ca 7, 8, .inl (fun _ => 0))), (a8, .inl (ca 8, 8, .inl (fun _ => 0)))] H := hP
  have hD : va_D A [(q, .inr (2, [.int 0, .int 0, .ref a7, .ref a8, .null, .null, .int 0, .int 0, .int 0, .int 0, .int 0, .int 0, .null])), (a7, .inl (ca 7, 8, .inl (fun _ => 0))), (a8, .inl (ca 8, 8, .inl (fun _ => 0)))] := hD
  refine lv_aload_n hx hb dX2_init_20 rfl (kh_at hl 0 rfl) ?_
  refine lv_bipush (v := (8 : Int32)) hx hb dX2_init_21 (by decide) ?_
  refine kh_lnewa hx hb hK 9 (atype := .int) (ty := .int) (N := 8) (a0 := (8, .inl (fun _ => 0))) (by decide) rfl rfl (Or.inl rfl) (hts (.arrayClass .int) (by decide +kernel)) hP hD hS hA (fun _ => rfl) (by decide) (by decide) (by decide +kernel) (Nat.le_of_ble_eq_true rfl) (Nat.le_of_ble_eq_true rfl) dX2_init_23 (fun a9 H hP hD hS => ?_)
  have hP : va_P D vwCl [(q, .inr (2, [.int 0, .int 0, .ref a7, .ref a8, .null, .null, .int 0, .int 0, .int 0, .int 0, .int 0, .int 0, .null])), (a7, .inl (ca 7, 8, .inl (fun _ => 0))), (a8, .inl (ca 8, 8, .inl (fun _ => 0))), (a9, .inl (ca 9, 8, .inl (fun _ => 0)))] H := hP
  have hD : va_D A [(q, .inr (2, [.int 0, .int 0, .ref a7, .ref a8, .null, .null, .int 0, .int 0, .int 0, .int 0, .int 0, .int 0, .null])), (a7, .inl (ca 7, 8, .inl (fun _ => 0))), (a8, .inl (ca 8, 8, .inl (fun _ => 0))), (a9, .inl (ca 9, 8, .inl (fun _ => 0)))] := hD
  refine W.widen (k := 3) (n := 24) (Nat.le_of_ble_eq_true rfl) (Nat.le_of_ble_eq_true rfl) ?_
  refine va_putF (D := D) (ci := 2) (v := .ref a9) (ty := .array .int) (C := RX2) (T := TX2) (N := 13) hx hb (Ts := u_ws RX2 TX2 13) (fun w h => hK.2.2.1 2 _ rfl w h _) (fun w h => h) tyX2 tyX2_ok nmX2 hown hK.1 hP hD hS 0 rfl rfl 4 (by decide) k_18 (fun _ h9 => h9) rfl hin rfl (by decide +kernel) rfl rfl (Nat.le_of_ble_eq_true rfl) dX2_init_25 (fun H locs hP hD hS => ?_)
  have hP : va_P D vwCl [(q, .inr (2, [.int 0, .int 0, .ref a7, .ref a8, .ref a9, .null, .int 0, .int 0, .int 0, .int 0, .int 0, .int 0, .null])), (a7, .inl (ca 7, 8, .inl (fun _ => 0))), (a8, .inl (ca 8, 8, .inl (fun _ => 0))), (a9, .inl (ca 9, 8, .inl (fun _ => 0)))] H := hP
  have hD : va_D A [(q, .inr (2, [.int 0, .int 0, .ref a7, .ref a8, .ref a9, .null, .int 0, .int 0, .int 0, .int 0, .int 0, .int 0, .null])), (a7, .inl (ca 7, 8, .inl (fun _ => 0))), (a8, .inl (ca 8, 8, .inl (fun _ => 0))), (a9, .inl (ca 9, 8, .inl (fun _ => 0)))] := hD
  refine lv_aload_n hx hb dX2_init_28 rfl (kh_at hl 0 rfl) ?_
  refine lv_bipush (v := (8 : Int32)) hx hb dX2_init_29 (by decide) ?_
  refine kh_lnewa hx hb hK 10 (atype := .int) (ty := .int) (N := 8) (a0 := (8, .inl (fun _ => 0))) (by decide) rfl rfl (Or.inl rfl) (hts (.arrayClass .int) (by decide +kernel)) hP hD hS hA (fun _ => rfl) (by decide) (by decide) (by decide +kernel) (Nat.le_of_ble_eq_true rfl) (Nat.le_of_ble_eq_true rfl) dX2_init_31 (fun a10 H hP hD hS => ?_)
  have hP : va_P D vwCl [(q, .inr (2, [.int 0, .int 0, .ref a7, .ref a8, .ref a9, .null, .int 0, .int 0, .int 0, .int 0, .int 0, .int 0, .null])), (a7, .inl (ca 7, 8, .inl (fun _ => 0))), (a8, .inl (ca 8, 8, .inl (fun _ => 0))), (a9, .inl (ca 9, 8, .inl (fun _ => 0))), (a10, .inl (ca 10, 8, .inl (fun _ => 0)))] H := hP
  have hD : va_D A [(q, .inr (2, [.int 0, .int 0, .ref a7, .ref a8, .ref a9, .null, .int 0, .int 0, .int 0, .int 0, .int 0, .int 0, .null])), (a7, .inl (ca 7, 8, .inl (fun _ => 0))), (a8, .inl (ca 8, 8, .inl (fun _ => 0))), (a9, .inl (ca 9, 8, .inl (fun _ => 0))), (a10, .inl (ca 10, 8, .inl (fun _ => 0)))] := hD
  refine W.widen (k := 4) (n := 32) (Nat.le_of_ble_eq_true rfl) (Nat.le_of_ble_eq_true rfl) ?_
  refine va_putF (D := D) (ci := 2) (v := .ref a10) (ty := .array .int) (C := RX2) (T := TX2) (N := 13) hx hb (Ts := u_ws RX2 TX2 13) (fun w h => hK.2.2.1 2 _ rfl w h _) (fun w h => h) tyX2 tyX2_ok nmX2 hown hK.1 hP hD hS 0 rfl rfl 5 (by decide) k_21 (fun _ h9 => h9) rfl hin rfl (by decide +kernel) rfl rfl (Nat.le_of_ble_eq_true rfl) dX2_init_33 (fun H locs hP hD hS => ?_)
  have hP : va_P D vwCl [(q, .inr (2, [.int 0, .int 0, .ref a7, .ref a8, .ref a9, .ref a10, .int 0, .int 0, .int 0, .int 0, .int 0, .int 0, .null])), (a7, .inl (ca 7, 8, .inl (fun _ => 0))), (a8, .inl (ca 8, 8, .inl (fun _ => 0))), (a9, .inl (ca 9, 8, .inl (fun _ => 0))), (a10, .inl (ca 10, 8, .inl (fun _ => 0)))] H := hP
  have hD : va_D A [(q, .inr (2, [.int 0, .int 0, .ref a7, .ref a8, .ref a9, .ref a10, .int 0, .int 0, .int 0, .int 0, .int 0, .int 0, .null])), (a7, .inl (ca 7, 8, .inl (fun _ => 0))), (a8, .inl (ca 8, 8, .inl (fun _ => 0))), (a9, .inl (ca 9, 8, .inl (fun _ => 0))), (a10, .inl (ca 10, 8, .inl (fun _ => 0)))] := hD
  refine lv_aload_n hx hb dX2_init_36 rfl (kh_at hl 0 rfl) ?_
  refine lv_iconst (v := (5 : Int32)) hx hb dX2_init_37 (by decide) ?_
  refine va_put (D := D) (ci := 2) (v := .int (5 : Int32)) (ty := .int) (C := RX2) (T := TX2) (N := 13) hx hb (Ts := u_ws RX2 TX2 13) (fun w h => hK.2.2.1 2 _ rfl w h _) (fun w h => h) tyX2 tyX2_ok nmX2 hown hK.1 hP hD hS 0 rfl rfl 7 (by decide) k_24 (fun _ h9 => h9) rfl (by decide +kernel) rfl rfl (Nat.le_of_ble_eq_true rfl) dX2_init_38 (fun H locs hP hD hS => ?_)
  have hP : va_P D vwCl [(q, .inr (2, [.int 0, .int 0, .ref a7, .ref a8, .ref a9, .ref a10, .int 0, .int (5 : Int32), .int 0, .int 0, .int 0, .int 0, .null])), (a7, .inl (ca 7, 8, .inl (fun _ => 0))), (a8, .inl (ca 8, 8, .inl (fun _ => 0))), (a9, .inl (ca 9, 8, .inl (fun _ => 0))), (a10, .inl (ca 10, 8, .inl (fun _ => 0)))] H := hP
  have hD : va_D A [(q, .inr (2, [.int 0, .int 0, .ref a7, .ref a8, .ref a9, .ref a10, .int 0, .int (5 : Int32), .int 0, .int 0, .int 0, .int 0, .null])), (a7, .inl (ca 7, 8, .inl (fun _ => 0))), (a8, .inl (ca 8, 8, .inl (fun _ => 0))), (a9, .inl (ca 9, 8, .inl (fun _ => 0))), (a10, .inl (ca 10, 8, .inl (fun _ => 0)))] := hD
  refine lv_aload_n hx hb dX2_init_41 rfl (kh_at hl 0 rfl) ?_
  refine lv_iconst (v := (0 : Int32)) hx hb dX2_init_42 (by decide) ?_
  refine va_put (D := D) (ci := 2) (v := .int (0 : Int32)) (ty := .int) (C := RX2) (T := TX2) (N := 13) hx hb (Ts := u_ws RX2 TX2 13) (fun w h => hK.2.2.1 2 _ rfl w h _) (fun w h => h) tyX2 tyX2_ok nmX2 hown hK.1 hP hD hS 0 rfl rfl 8 (by decide) k_28 (fun _ h9 => h9) rfl (by decide +kernel) rfl rfl (Nat.le_of_ble_eq_true rfl) dX2_init_43 (fun H locs hP hD hS => ?_)
  have hP : va_P D vwCl [(q, .inr (2, [.int 0, .int 0, .ref a7, .ref a8, .ref a9, .ref a10, .int 0, .int (5 : Int32), .int (0 : Int32), .int 0, .int 0, .int 0, .null])), (a7, .inl (ca 7, 8, .inl (fun _ => 0))), (a8, .inl (ca 8, 8, .inl (fun _ => 0))), (a9, .inl (ca 9, 8, .inl (fun _ => 0))), (a10, .inl (ca 10, 8, .inl (fun _ => 0)))] H := hP
  have hD : va_D A [(q, .inr (2, [.int 0, .int 0, .ref a7, .ref a8, .ref a9, .ref a10, .int 0, .int (5 : Int32), .int (0 : Int32), .int 0, .int 0, .int 0, .null])), (a7, .inl (ca 7, 8, .inl (fun _ => 0))), (a8, .inl (ca 8, 8, .inl (fun _ => 0))), (a9, .inl (ca 9, 8, .inl (fun _ => 0))), (a10, .inl (ca 10, 8, .inl (fun _ => 0)))] := hD
  refine lv_aload_n hx hb dX2_init_46 rfl (kh_at hl 0 rfl) ?_
  refine lv_iload_n hx hb dX2_init_47 rfl (kh_at hl 1 rfl) ?_
  refine va_putF (D := D) (ci := 2) (v := .int x1) (ty := .int) (C := RX2) (T := TX2) (N := 13) hx hb (Ts := u_ws RX2 TX2 13) (fun w h => hK.2.2.1 2 _ rfl w h _) (fun w h => h) tyX2 tyX2_ok nmX2 hown hK.1 hP hD hS 0 rfl rfl 0 (by decide) k_31 (fun _ h9 => h9) rfl hin rfl (by decide +kernel) rfl rfl (Nat.le_of_ble_eq_true rfl) dX2_init_48 (fun H locs hP hD hS => ?_)
  have hP : va_P D vwCl [(q, .inr (2, [.int x1, .int 0, .ref a7, .ref a8, .ref a9, .ref a10, .int 0, .int (5 : Int32), .int (0 : Int32), .int 0, .int 0, .int 0, .null])), (a7, .inl (ca 7, 8, .inl (fun _ => 0))), (a8, .inl (ca 8, 8, .inl (fun _ => 0))), (a9, .inl (ca 9, 8, .inl (fun _ => 0))), (a10, .inl (ca 10, 8, .inl (fun _ => 0)))] H := hP
  have hD : va_D A [(q, .inr (2, [.int x1, .int 0, .ref a7, .ref a8, .ref a9, .ref a10, .int 0, .int (5 : Int32), .int (0 : Int32), .int 0, .int 0, .int 0, .null])), (a7, .inl (ca 7, 8, .inl (fun _ => 0))), (a8, .inl (ca 8, 8, .inl (fun _ => 0))), (a9, .inl (ca 9, 8, .inl (fun _ => 0))), (a10, .inl (ca 10, 8, .inl (fun _ => 0)))] := hD
  refine lv_aload_n hx hb dX2_init_51 rfl (kh_at hl 0 rfl) ?_
  refine lv_iload_n hx hb dX2_init_52 rfl (kh_at hl 2 rfl) ?_
  refine va_putF (D := D) (ci := 2) (v := .int x2) (ty := .int) (C := RX2) (T := TX2) (N := 13) hx hb (Ts := u_ws RX2 TX2 13) (fun w h => hK.2.2.1 2 _ rfl w h _) (fun w h => h) tyX2 tyX2_ok nmX2 hown hK.1 hP hD hS 0 rfl rfl 1 (by decide) k_34 (fun _ h9 => h9) rfl hin rfl (by decide +kernel) rfl rfl (Nat.le_of_ble_eq_true rfl) dX2_init_53 (fun H locs hP hD hS => ?_)
  have hP : va_P D vwCl [(q, .inr (2, [.int x1, .int x2, .ref a7, .ref a8, .ref a9, .ref a10, .int 0, .int (5 : Int32), .int (0 : Int32), .int 0, .int 0, .int 0, .null])), (a7, .inl (ca 7, 8, .inl (fun _ => 0))), (a8, .inl (ca 8, 8, .inl (fun _ => 0))), (a9, .inl (ca 9, 8, .inl (fun _ => 0))), (a10, .inl (ca 10, 8, .inl (fun _ => 0)))] H := hP
  have hD : va_D A [(q, .inr (2, [.int x1, .int x2, .ref a7, .ref a8, .ref a9, .ref a10, .int 0, .int (5 : Int32), .int (0 : Int32), .int 0, .int 0, .int 0, .null])), (a7, .inl (ca 7, 8, .inl (fun _ => 0))), (a8, .inl (ca 8, 8, .inl (fun _ => 0))), (a9, .inl (ca 9, 8, .inl (fun _ => 0))), (a10, .inl (ca 10, 8, .inl (fun _ => 0)))] := hD
  exact W.vret hx hb hr (fun t ht hW => ⟨⟨(a7, a8, a9, a10), rfl, trivial, by rw [ht]; exact hP, hD⟩, hS.F ht⟩) hS.2.2 dX2_init_56

abbrev kh_bX3_init (q : Nat) : va_W := [(q, .inr (3, [.null, .int 0, .int 0]))]
abbrev kh_aX3_init (ca : Nat → ClassId) (q : Nat)  (u : Unit) : va_W := [(q, .inr (3, [.null, .int (-1 : Int32), .int (-1 : Int32)]))]
set_option maxHeartbeats 4000000 in
set_option maxRecDepth 100000 in
theorem c_X3_init (l : Launch) (D : va_G) (ca : Nat → ClassId) (q sz : Nat)  : Met l yX3_init wsX3_init ({ frames := 1, cells := 0, slots := 0, locals := 12 } : Room) (va_Pc [.ref q] (fun U => kh_K D ca U ∧ U.heap.size = sz ∧ va_P D vwCl (kh_bX3_init q) U.heap ∧ va_D (fun _ => True) (kh_bX3_init q))) (va_Qv (fun _ : Unit => True) (fun u t => va_P D vwCl (kh_aX3_init ca q  u) t.heap ∧ va_D (va_A (kh_bX3_init q) sz) (kh_aX3_init ca q  u)) (va_A (kh_bX3_init q) sz)) 0 0 (va_A (kh_bX3_init q) sz) := by
  refine Met.ofW (cc := cX3_init) (maxL := 1) (ret := none) (by decide) rfl ?_
  intro p e s m args below meth c s₁ B hml hv
  obtain ⟨rfl, hK, hsz, hP, hD0⟩ := hv
  have hx := B.exec
  have hb := B.bytes
  have hr := B.returns
  have hts := atoms_spec (ws := wsX3_init) B.pre
  have hown : s.vm.findClass RX3 = some m.cls := findClass_of_methodNamed B.named
  have hlocks := B.notSynchronized
  have hin : meth.name = "<init>" := (name_of_methodNamed B.named B.method).1
  subst hsz
  have hD := hD0.self (sz := s.heap.size)
  generalize hAe : va_A (kh_bX3_init q) s.heap.size = A at hD ⊢
  have hA : ∀ q : Nat, s.heap.size ≤ q → A q := fun q h => by rw [← hAe]; exact Or.inr h
  have hS : va_S A s.heap s.heap [] := va_S.rf
  have hl := kh_entry ([.ref q]) (n := 1) (kh_ac rfl kh_an) (Nat.le_of_ble_eq_true rfl)
  rw [lg_entry_eq]
  generalize (lg_sl ([.ref q]) ++ List.replicate (1 - (lg_sl ([.ref q])).length) Slot.unset).toArray = ls at hl ⊢
  have hl : kh_lv ls 1 [(0, .ref q)] := hl
  have k_9 := hts (.fieldLink RX3 9 "KeylessHall$Worker" "puzzle" "I") (by decide +kernel)
  have k_15 := hts (.fieldLink RX3 15 "KeylessHall$Worker" "minutesLeft" "I") (by decide +kernel)
  refine lv_aload_n hx hb dX3_init_0 rfl (kh_at hl 0 rfl) ?_
  refine W.objInit hx hb hown (hts (.methodLink RX3 3 objectInit) (by decide +kernel)) (hts (.instanceMethod objectInit) (by decide +kernel)) (hts (.code objectInit ⟨#[0xb1]⟩ 1 none) (by decide +kernel)) rfl (by rw [hml]; exact hl.1.1) rfl dX3_init_1 (Nat.le_of_ble_eq_true rfl) (Nat.le_of_ble_eq_true rfl) ?_
  refine W.eq (g2 := F0 m 4 ls []) rfl ?_
  refine lv_aload_n hx hb dX3_init_4 rfl (kh_at hl 0 rfl) ?_
  refine lv_iconst (v := (-1 : Int32)) hx hb dX3_init_5 (by decide) ?_
  refine va_put (D := D) (ci := 3) (v := .int (-1 : Int32)) (ty := .int) (C := RX3) (T := TX3) (N := 3) hx hb (Ts := u_ws RX3 TX3 3) (fun w h => hK.2.2.1 3 _ rfl w h _) (fun w h => h) tyX3 tyX3_ok nmX3 hown hK.1 hP hD hS 0 rfl rfl 1 (by decide) k_9 (fun _ h9 => h9) rfl (by decide +kernel) rfl rfl (Nat.le_of_ble_eq_true rfl) dX3_init_6 (fun H locs hP hD hS => ?_)
  have hP : va_P D vwCl [(q, .inr (3, [.null, .int (-1 : Int32), .int 0]))] H := hP
  have hD : va_D A [(q, .inr (3, [.null, .int (-1 : Int32), .int 0]))] := hD
  refine lv_aload_n hx hb dX3_init_9 rfl (kh_at hl 0 rfl) ?_
  refine lv_iconst (v := (-1 : Int32)) hx hb dX3_init_10 (by decide) ?_
  refine va_put (D := D) (ci := 3) (v := .int (-1 : Int32)) (ty := .int) (C := RX3) (T := TX3) (N := 3) hx hb (Ts := u_ws RX3 TX3 3) (fun w h => hK.2.2.1 3 _ rfl w h _) (fun w h => h) tyX3 tyX3_ok nmX3 hown hK.1 hP hD hS 0 rfl rfl 2 (by decide) k_15 (fun _ h9 => h9) rfl (by decide +kernel) rfl rfl (Nat.le_of_ble_eq_true rfl) dX3_init_11 (fun H locs hP hD hS => ?_)
  have hP : va_P D vwCl [(q, .inr (3, [.null, .int (-1 : Int32), .int (-1 : Int32)]))] H := hP
  have hD : va_D A [(q, .inr (3, [.null, .int (-1 : Int32), .int (-1 : Int32)]))] := hD
  exact W.vret hx hb hr (fun t ht hW => ⟨⟨(), rfl, trivial, by rw [ht]; exact hP, hD⟩, hS.F ht⟩) hS.2.2 dX3_init_14

