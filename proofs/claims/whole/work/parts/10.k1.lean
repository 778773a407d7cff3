def f_X4_has_L13 (ρ : kh_S) (t0_13 : Int32) : Option (Int32) := kh_gd (kh_b t0_13) (some t0_13)
def f_X4_has (ρ : kh_S) (x0 : Int32) (x1 : Int32) : Option (Int32) := if (x0 &&& ((1 : Int32) <<< (x1 &&& 31))) = 0 then f_X4_has_L13 ρ (0 : Int32) else f_X4_has_L13 ρ (1 : Int32)
set_option maxHeartbeats 4000000 in
set_option maxRecDepth 100000 in
theorem c_X4_has (l : Launch) (D : va_G) (ca : Nat → ClassId) (A : Nat → Prop) (ad : Nat → Nat → Nat) (ρ : kh_S) (x0 : Int32) (x1 : Int32) {q0 : Int32} (hF0 : f_X4_has ρ x0 x1 = some q0) : Met l yX4_has wsX4_has ({ frames := 0, cells := 0, slots := 0, locals := 0 } : Room) (va_Pc [.int x0, .int x1] (kh_I D ca A ad ρ)) (kh_Qi D ca A ad (kh_pu (f_X4_has ρ x0 x1) ρ)) 0 0 A := by
  refine Met.ofW (cc := cX4_has) (maxL := 2) (ret := (some .boolean)) (by decide) rfl ?_
  intro p e s m args below meth c s₁ B hml hv
  obtain ⟨rfl, hK, hw, hA⟩ := hv
  have C : kh_C p s m ([.int x0, .int x1]).toArray c cX4_has 2 RX4 wsX4_has D ca A := ⟨B.exec, B.bytes, hml, findClass_of_methodNamed B.named, atoms_spec (ws := wsX4_has) B.pre, hK, hA⟩
  have hr := B.returns
  have hlocks := B.notSynchronized
  have hS : va_S A s.heap s.heap [] := va_S.rf
  have hl := kh_entry ([.int x0, .int x1]) (n := 2) (kh_ac rfl (kh_ac rfl kh_an)) (Nat.le_of_ble_eq_true rfl)
  rw [lg_entry_eq]
  generalize (lg_sl ([.int x0, .int x1]) ++ List.replicate (2 - (lg_sl ([.int x0, .int x1])).length) Slot.unset).toArray = ls at hl ⊢
  have hl : kh_lv ls 2 [(0, .int x0), (1, .int x1)] := hl
  have hF := hF0
  unfold f_X4_has at hF
  have wL13 : ∀ (t0_13 : Int32) (H : Heap) (locs : List Loc) (ls : Array Slot), f_X4_has_L13 ρ t0_13 = some q0 → kh_w D ca A ad ρ H → va_S A s.heap H locs → kh_lv ls 2 [] → W p l e (headSpec wsX4_has ({ frames := 0, cells := 0, slots := 0, locals := 0 } : Room)).room s m ([.int x0, .int x1]).toArray below meth c H locs 0 0 (MQ below (kh_Qi D ca A ad (kh_pu (f_X4_has ρ x0 x1) ρ)) ([.int x0, .int x1]).toArray s 0 0 A) (F0 m 13 ls [.int t0_13]) := by
    intro t0_13 H locs ls hF hw hS hl
    unfold f_X4_has_L13 at hF
    obtain ⟨g_1, hF⟩ := kh_gd_ok hF
    exact W.zret (v := t0_13) (ty := .boolean) C.1 C.2.1 hr (kh_b_ok g_1).1 (fun t ht hW => ⟨⟨t0_13, ρ, rfl, kh_mp (hF0.trans hF.symm), kh_bk ht hw⟩, hS.F ht⟩) hS.2.2 dX4_has_13
  refine lv_iload_n C.1 C.2.1 dX4_has_0 rfl (kh_at hl 0 rfl) ?_
  refine lv_iconst (v := (1 : Int32)) C.1 C.2.1 dX4_has_1 (by decide) ?_
  refine lv_iload_n C.1 C.2.1 dX4_has_2 rfl (kh_at hl 1 rfl) ?_
  refine lv_ishl C.1 C.2.1 dX4_has_3 ?_
  refine lv_iand C.1 C.2.1 dX4_has_4 ?_
  refine lv_if_eq (tgt := 12) C.1 C.2.1 dX4_has_5 (by decide) (fun c_2 => ?_) (fun c_2 => ?_)
  · have hF := kh_ift hF c_2
    refine lv_iconst (v := (0 : Int32)) C.1 C.2.1 dX4_has_12 (by decide) ?_
    exact wL13 (0 : Int32) _ _ _ hF hw hS (kh_sub hl [] rfl)
  · have hF := kh_iff hF c_2
    refine lv_iconst (v := (1 : Int32)) C.1 C.2.1 dX4_has_8 (by decide) ?_
    refine lv_goto (tgt := 13) C.1 C.2.1 dX4_has_9 (by decide) ?_
    exact wL13 (1 : Int32) _ _ _ hF hw hS (kh_sub hl [] rfl)

def f_X4_with (ρ : kh_S) (x0 : Int32) (x1 : Int32) : Option (Int32) := some (x0 ||| ((1 : Int32) <<< (x1 &&& 31)))
set_option maxHeartbeats 4000000 in
set_option maxRecDepth 100000 in
theorem c_X4_with (l : Launch) (D : va_G) (ca : Nat → ClassId) (A : Nat → Prop) (ad : Nat → Nat → Nat) (ρ : kh_S) (x0 : Int32) (x1 : Int32) {q0 : Int32} (hF0 : f_X4_with ρ x0 x1 = some q0) : Met l yX4_with wsX4_with ({ frames := 0, cells := 0, slots := 0, locals := 0 } : Room) (va_Pc [.int x0, .int x1] (kh_I D ca A ad ρ)) (kh_Qi D ca A ad (kh_pu (f_X4_with ρ x0 x1) ρ)) 0 0 A := by
  refine Met.ofW (cc := cX4_with) (maxL := 2) (ret := (some .int)) (by decide) rfl ?_
  intro p e s m args below meth c s₁ B hml hv
  obtain ⟨rfl, hK, hw, hA⟩ := hv
  have C : kh_C p s m ([.int x0, .int x1]).toArray c cX4_with 2 RX4 wsX4_with D ca A := ⟨B.exec, B.bytes, hml, findClass_of_methodNamed B.named, atoms_spec (ws := wsX4_with) B.pre, hK, hA⟩
  have hr := B.returns
  have hlocks := B.notSynchronized
  have hS : va_S A s.heap s.heap [] := va_S.rf
  have hl := kh_entry ([.int x0, .int x1]) (n := 2) (kh_ac rfl (kh_ac rfl kh_an)) (Nat.le_of_ble_eq_true rfl)
  rw [lg_entry_eq]
  generalize (lg_sl ([.int x0, .int x1]) ++ List.replicate (2 - (lg_sl ([.int x0, .int x1])).length) Slot.unset).toArray = ls at hl ⊢
  have hl : kh_lv ls 2 [(0, .int x0), (1, .int x1)] := hl
  have hF := hF0
  unfold f_X4_with at hF
  refine lv_iload_n C.1 C.2.1 dX4_with_0 rfl (kh_at hl 0 rfl) ?_
  refine lv_iconst (v := (1 : Int32)) C.1 C.2.1 dX4_with_1 (by decide) ?_
  refine lv_iload_n C.1 C.2.1 dX4_with_2 rfl (kh_at hl 1 rfl) ?_
  refine lv_ishl C.1 C.2.1 dX4_with_3 ?_
  refine lv_ior C.1 C.2.1 dX4_with_4 ?_
  exact W.iret (v := x0 ||| ((1 : Int32) <<< (x1 &&& 31))) C.1 C.2.1 hr (fun t ht hW => ⟨⟨x0 ||| ((1 : Int32) <<< (x1 &&& 31)), ρ, rfl, kh_mp (hF0.trans hF.symm), kh_bk ht hw⟩, hS.F ht⟩) hS.2.2 dX4_with_5

def f_X4_without (ρ : kh_S) (x0 : Int32) (x1 : Int32) : Option (Int32) := some (x0 &&& (((1 : Int32) <<< (x1 &&& 31)) ^^^ (-1 : Int32)))
set_option maxHeartbeats 4000000 in
set_option maxRecDepth 100000 in
theorem c_X4_without (l : Launch) (D : va_G) (ca : Nat → ClassId) (A : Nat → Prop) (ad : Nat → Nat → Nat) (ρ : kh_S) (x0 : Int32) (x1 : Int32) {q0 : Int32} (hF0 : f_X4_without ρ x0 x1 = some q0) : Met l yX4_without wsX4_without ({ frames := 0, cells := 0, slots := 0, locals := 0 } : Room) (va_Pc [.int x0, .int x1] (kh_I D ca A ad ρ)) (kh_Qi D ca A ad (kh_pu (f_X4_without ρ x0 x1) ρ)) 0 0 A := by
  refine Met.ofW (cc := cX4_without) (maxL := 2) (ret := (some .int)) (by decide) rfl ?_
  intro p e s m args below meth c s₁ B hml hv
  obtain ⟨rfl, hK, hw, hA⟩ := hv
  have C : kh_C p s m ([.int x0, .int x1]).toArray c cX4_without 2 RX4 wsX4_without D ca A := ⟨B.exec, B.bytes, hml, findClass_of_methodNamed B.named, atoms_spec (ws := wsX4_without) B.pre, hK, hA⟩
  have hr := B.returns
  have hlocks := B.notSynchronized
  have hS : va_S A s.heap s.heap [] := va_S.rf
  have hl := kh_entry ([.int x0, .int x1]) (n := 2) (kh_ac rfl (kh_ac rfl kh_an)) (Nat.le_of_ble_eq_true rfl)
  rw [lg_entry_eq]
  generalize (lg_sl ([.int x0, .int x1]) ++ List.replicate (2 - (lg_sl ([.int x0, .int x1])).length) Slot.unset).toArray = ls at hl ⊢
  have hl : kh_lv ls 2 [(0, .int x0), (1, .int x1)] := hl
  have hF := hF0
  unfold f_X4_without at hF
  refine lv_iload_n C.1 C.2.1 dX4_without_0 rfl (kh_at hl 0 rfl) ?_
  refine lv_iconst (v := (1 : Int32)) C.1 C.2.1 dX4_without_1 (by decide) ?_
  refine lv_iload_n C.1 C.2.1 dX4_without_2 rfl (kh_at hl 1 rfl) ?_
  refine lv_ishl C.1 C.2.1 dX4_without_3 ?_
  refine lv_iconst (v := (-1 : Int32)) C.1 C.2.1 dX4_without_4 (by decide) ?_
  refine lv_ixor C.1 C.2.1 dX4_without_5 ?_
  refine lv_iand C.1 C.2.1 dX4_without_6 ?_
  exact W.iret (v := x0 &&& (((1 : Int32) <<< (x1 &&& 31)) ^^^ (-1 : Int32))) C.1 C.2.1 hr (fun t ht hW => ⟨⟨x0 &&& (((1 : Int32) <<< (x1 &&& 31)) ^^^ (-1 : Int32)), ρ, rfl, kh_mp (hF0.trans hF.symm), kh_bk ht hw⟩, hS.F ht⟩) hS.2.2 dX4_without_7

def f_X4_isWithin_L13 (ρ : kh_S) (t0_13 : Int32) : Option (Int32) := kh_gd (kh_b t0_13) (some t0_13)
def f_X4_isWithin (ρ : kh_S) (x0 : Int32) (x1 : Int32) : Option (Int32) := if (x0 &&& (x1 ^^^ (-1 : Int32))) = 0 then f_X4_isWithin_L13 ρ (1 : Int32) else f_X4_isWithin_L13 ρ (0 : Int32)
set_option maxHeartbeats 4000000 in
set_option maxRecDepth 100000 in
theorem c_X4_isWithin (l : Launch) (D : va_G) (ca : Nat → ClassId) (A : Nat → Prop) (ad : Nat → Nat → Nat) (ρ : kh_S) (x0 : Int32) (x1 : Int32) {q0 : Int32} (hF0 : f_X4_isWithin ρ x0 x1 = some q0) : Met l yX4_isWithin wsX4_isWithin ({ frames := 0, cells := 0, slots := 0, locals := 0 } : Room) (va_Pc [.int x0, .int x1] (kh_I D ca A ad ρ)) (kh_Qi D ca A ad (kh_pu (f_X4_isWithin ρ x0 x1) ρ)) 0 0 A := by
  refine Met.ofW (cc := cX4_isWithin) (maxL := 2) (ret := (some .boolean)) (by decide) rfl ?_
  intro p e s m args below meth c s₁ B hml hv
  obtain ⟨rfl, hK, hw, hA⟩ := hv
  have C : kh_C p s m ([.int x0, .int x1]).toArray c cX4_isWithin 2 RX4 wsX4_isWithin D ca A := ⟨B.exec, B.bytes, hml, findClass_of_methodNamed B.named, atoms_spec (ws := wsX4_isWithin) B.pre, hK, hA⟩
  have hr := B.returns
  have hlocks := B.notSynchronized
  have hS : va_S A s.heap s.heap [] := va_S.rf
  have hl := kh_entry ([.int x0, .int x1]) (n := 2) (kh_ac rfl (kh_ac rfl kh_an)) (Nat.le_of_ble_eq_true rfl)
  rw [lg_entry_eq]
  generalize (lg_sl ([.int x0, .int x1]) ++ List.replicate (2 - (lg_sl ([.int x0, .int x1])).length) Slot.unset).toArray = ls at hl ⊢
  have hl : kh_lv ls 2 [(0, .int x0), (1, .int x1)] := hl
  have hF := hF0
  unfold f_X4_isWithin at hF
  have wL13 : ∀ (t0_13 : Int32) (H : Heap) (locs : List Loc) (ls : Array Slot), f_X4_isWithin_L13 ρ t0_13 = some q0 → kh_w D ca A ad ρ H → va_S A s.heap H locs → kh_lv ls 2 [] → W p l e (headSpec wsX4_isWithin ({ frames := 0, cells := 0, slots := 0, locals := 0 } : Room)).room s m ([.int x0, .int x1]).toArray below meth c H locs 0 0 (MQ below (kh_Qi D ca A ad (kh_pu (f_X4_isWithin ρ x0 x1) ρ)) ([.int x0, .int x1]).toArray s 0 0 A) (F0 m 13 ls [.int t0_13]) := by
    intro t0_13 H locs ls hF hw hS hl
    unfold f_X4_isWithin_L13 at hF
    obtain ⟨g_1, hF⟩ := kh_gd_ok hF
    exact W.zret (v := t0_13) (ty := .boolean) C.1 C.2.1 hr (kh_b_ok g_1).1 (fun t ht hW => ⟨⟨t0_13, ρ, rfl, kh_mp (hF0.trans hF.symm), kh_bk ht hw⟩, hS.F ht⟩) hS.2.2 dX4_isWithin_13
  refine lv_iload_n C.1 C.2.1 dX4_isWithin_0 rfl (kh_at hl 0 rfl) ?_
  refine lv_iload_n C.1 C.2.1 dX4_isWithin_1 rfl (kh_at hl 1 rfl) ?_
  refine lv_iconst (v := (-1 : Int32)) C.1 C.2.1 dX4_isWithin_2 (by decide) ?_
  refine lv_ixor C.1 C.2.1 dX4_isWithin_3 ?_
  refine lv_iand C.1 C.2.1 dX4_isWithin_4 ?_
  refine lv_if_ne (tgt := 12) C.1 C.2.1 dX4_isWithin_5 (by decide) (fun c_2 => ?_) (fun c_2 => ?_)
  · have hF := kh_iff hF c_2
    refine lv_iconst (v := (0 : Int32)) C.1 C.2.1 dX4_isWithin_12 (by decide) ?_
    exact wL13 (0 : Int32) _ _ _ hF hw hS (kh_sub hl [] rfl)
  · have hF := kh_ift hF c_2
    refine lv_iconst (v := (1 : Int32)) C.1 C.2.1 dX4_isWithin_8 (by decide) ?_
    refine lv_goto (tgt := 13) C.1 C.2.1 dX4_isWithin_9 (by decide) ?_
    exact wL13 (1 : Int32) _ _ _ hF hw hS (kh_sub hl [] rfl)

def f_X4_areThings_L16 (ρ : kh_S) (t0_16 : Int32) : Option (Int32) := kh_gd (kh_b t0_16) (some t0_16)
def f_X4_areThings_L15 (ρ : kh_S) : Option (Int32) := f_X4_areThings_L16 ρ (0 : Int32)
def f_X4_areThings (ρ : kh_S) (x0 : Int32) : Option (Int32) := if x0 < 0 then f_X4_areThings_L15 ρ else if (4095 : Int32) < x0 then f_X4_areThings_L15 ρ else f_X4_areThings_L16 ρ (1 : Int32)
set_option maxHeartbeats 4000000 in
set_option maxRecDepth 100000 in
theorem c_X4_areThings (l : Launch) (D : va_G) (ca : Nat → ClassId) (A : Nat → Prop) (ad : Nat → Nat → Nat) (ρ : kh_S) (x0 : Int32) {q0 : Int32} (hF0 : f_X4_areThings ρ x0 = some q0) : Met l yX4_areThings wsX4_areThings ({ frames := 0, cells := 0, slots := 0, locals := 0 } : Room) (va_Pc [.int x0] (kh_I D ca A ad ρ)) (kh_Qi D ca A ad (kh_pu (f_X4_areThings ρ x0) ρ)) 0 0 A := by
  refine Met.ofW (cc := cX4_areThings) (maxL := 1) (ret := (some .boolean)) (by decide) rfl ?_
  intro p e s m args below meth c s₁ B hml hv
  obtain ⟨rfl, hK, hw, hA⟩ := hv
  have C : kh_C p s m ([.int x0]).toArray c cX4_areThings 1 RX4 wsX4_areThings D ca A := ⟨B.exec, B.bytes, hml, findClass_of_methodNamed B.named, atoms_spec (ws := wsX4_areThings) B.pre, hK, hA⟩
  have hr := B.returns
  have hlocks := B.notSynchronized
  have hS : va_S A s.heap s.heap [] := va_S.rf
  have hl := kh_entry ([.int x0]) (n := 1) (kh_ac rfl kh_an) (Nat.le_of_ble_eq_true rfl)
  rw [lg_entry_eq]
  generalize (lg_sl ([.int x0]) ++ List.replicate (1 - (lg_sl ([.int x0])).length) Slot.unset).toArray = ls at hl ⊢
  have hl : kh_lv ls 1 [(0, .int x0)] := hl
  have hF := hF0
  unfold f_X4_areThings at hF
  have wL16 : ∀ (t0_16 : Int32) (H : Heap) (locs : List Loc) (ls : Array Slot), f_X4_areThings_L16 ρ t0_16 = some q0 → kh_w D ca A ad ρ H → va_S A s.heap H locs → kh_lv ls 1 [] → W p l e (headSpec wsX4_areThings ({ frames := 0, cells := 0, slots := 0, locals := 0 } : Room)).room s m ([.int x0]).toArray below meth c H locs 0 0 (MQ below (kh_Qi D ca A ad (kh_pu (f_X4_areThings ρ x0) ρ)) ([.int x0]).toArray s 0 0 A) (F0 m 16 ls [.int t0_16]) := by
    intro t0_16 H locs ls hF hw hS hl
    unfold f_X4_areThings_L16 at hF
    obtain ⟨g_1, hF⟩ := kh_gd_ok hF
    exact W.zret (v := t0_16) (ty := .boolean) C.1 C.2.1 hr (kh_b_ok g_1).1 (fun t ht hW => ⟨⟨t0_16, ρ, rfl, kh_mp (hF0.trans hF.symm), kh_bk ht hw⟩, hS.F ht⟩) hS.2.2 dX4_areThings_16
  have wL15 : ∀ (H : Heap) (locs : List Loc) (ls : Array Slot), f_X4_areThings_L15 ρ = some q0 → kh_w D ca A ad ρ H → va_S A s.heap H locs → kh_lv ls 1 [] → W p l e (headSpec wsX4_areThings ({ frames := 0, cells := 0, slots := 0, locals := 0 } : Room)).room s m ([.int x0]).toArray below meth c H locs 0 0 (MQ below (kh_Qi D ca A ad (kh_pu (f_X4_areThings ρ x0) ρ)) ([.int x0]).toArray s 0 0 A) (F0 m 15 ls []) := by
    intro  H locs ls hF hw hS hl
    unfold f_X4_areThings_L15 at hF
    refine lv_iconst (v := (0 : Int32)) C.1 C.2.1 dX4_areThings_15 (by decide) ?_
    exact wL16 (0 : Int32) _ _ _ hF hw hS (kh_sub hl [] rfl)
  refine lv_iload_n C.1 C.2.1 dX4_areThings_0 rfl (kh_at hl 0 rfl) ?_
  refine lv_if_lt (tgt := 15) C.1 C.2.1 dX4_areThings_1 (by decide) (fun c_2 => ?_) (fun c_2 => ?_)
  · have hF := kh_ift hF c_2
    exact wL15  _ _ _ hF hw hS (kh_sub hl [] rfl)
  · have hF := kh_iff hF c_2
    refine lv_iload_n C.1 C.2.1 dX4_areThings_4 rfl (kh_at hl 0 rfl) ?_
    refine lv_sipush (v := (4095 : Int32)) C.1 C.2.1 dX4_areThings_5 (by decide) ?_
    refine lv_icmp_gt (tgt := 15) C.1 C.2.1 dX4_areThings_8 (by decide) (fun c_3 => ?_) (fun c_3 => ?_)
    · have hF := kh_ift hF c_3
      exact wL15  _ _ _ hF hw hS (kh_sub hl [] rfl)
    · have hF := kh_iff hF c_3
      refine lv_iconst (v := (1 : Int32)) C.1 C.2.1 dX4_areThings_11 (by decide) ?_
      refine lv_goto (tgt := 16) C.1 C.2.1 dX4_areThings_12 (by decide) ?_
      exact wL16 (1 : Int32) _ _ _ hF hw hS (kh_sub hl [] rfl)

def f_X4_isProp_L15 (ρ : kh_S) (t0_15 : Int32) : Option (Int32) := kh_gd (kh_b t0_15) (some t0_15)
def f_X4_isProp_L14 (ρ : kh_S) : Option (Int32) := f_X4_isProp_L15 ρ (0 : Int32)
def f_X4_isProp (ρ : kh_S) (x0 : Int32) : Option (Int32) := if x0 < 0 then f_X4_isProp_L14 ρ else if (8 : Int32) ≤ x0 then f_X4_isProp_L14 ρ else f_X4_isProp_L15 ρ (1 : Int32)
set_option maxHeartbeats 4000000 in
set_option maxRecDepth 100000 in
theorem c_X4_isProp (l : Launch) (D : va_G) (ca : Nat → ClassId) (A : Nat → Prop) (ad : Nat → Nat → Nat) (ρ : kh_S) (x0 : Int32) {q0 : Int32} (hF0 : f_X4_isProp ρ x0 = some q0) : Met l yX4_isProp wsX4_isProp ({ frames := 0, cells := 0, slots := 0, locals := 0 } : Room) (va_Pc [.int x0] (kh_I D ca A ad ρ)) (kh_Qi D ca A ad (kh_pu (f_X4_isProp ρ x0) ρ)) 0 0 A := by
  refine Met.ofW (cc := cX4_isProp) (maxL := 1) (ret := (some .boolean)) (by decide) rfl ?_
  intro p e s m args below meth c s₁ B hml hv
  obtain ⟨rfl, hK, hw, hA⟩ := hv
  have C : kh_C p s m ([.int x0]).toArray c cX4_isProp 1 RX4 wsX4_isProp D ca A := ⟨B.exec, B.bytes, hml, findClass_of_methodNamed B.named, atoms_spec (ws := wsX4_isProp) B.pre, hK, hA⟩
  have hr := B.returns
  have hlocks := B.notSynchronized
  have hS : va_S A s.heap s.heap [] := va_S.rf
  have hl := kh_entry ([.int x0]) (n := 1) (kh_ac rfl kh_an) (Nat.le_of_ble_eq_true rfl)
  rw [lg_entry_eq]
  generalize (lg_sl ([.int x0]) ++ List.replicate (1 - (lg_sl ([.int x0])).length) Slot.unset).toArray = ls at hl ⊢
  have hl : kh_lv ls 1 [(0, .int x0)] := hl
  have hF := hF0
  unfold f_X4_isProp at hF
  have wL15 : ∀ (t0_15 : Int32) (H : Heap) (locs : List Loc) (ls : Array Slot), f_X4_isProp_L15 ρ t0_15 = some q0 → kh_w D ca A ad ρ H → va_S A s.heap H locs → kh_lv ls 1 [] → W p l e (headSpec wsX4_isProp ({ frames := 0, cells := 0, slots := 0, locals := 0 } : Room)).room s m ([.int x0]).toArray below meth c H locs 0 0 (MQ below (kh_Qi D ca A ad (kh_pu (f_X4_isProp ρ x0) ρ)) ([.int x0]).toArray s 0 0 A) (F0 m 15 ls [.int t0_15]) := by
    intro t0_15 H locs ls hF hw hS hl
    unfold f_X4_isProp_L15 at hF
    obtain ⟨g_1, hF⟩ := kh_gd_ok hF
    exact W.zret (v := t0_15) (ty := .boolean) C.1 C.2.1 hr (kh_b_ok g_1).1 (fun t ht hW => ⟨⟨t0_15, ρ, rfl, kh_mp (hF0.trans hF.symm), kh_bk ht hw⟩, hS.F ht⟩) hS.2.2 dX4_isProp_15
  have wL14 : ∀ (H : Heap) (locs : List Loc) (ls : Array Slot), f_X4_isProp_L14 ρ = some q0 → kh_w D ca A ad ρ H → va_S A s.heap H locs → kh_lv ls 1 [] → W p l e (headSpec wsX4_isProp ({ frames := 0, cells := 0, slots := 0, locals := 0 } : Room)).room s m ([.int x0]).toArray below meth c H locs 0 0 (MQ below (kh_Qi D ca A ad (kh_pu (f_X4_isProp ρ x0) ρ)) ([.int x0]).toArray s 0 0 A) (F0 m 14 ls []) := by
    intro  H locs ls hF hw hS hl
    unfold f_X4_isProp_L14 at hF
    refine lv_iconst (v := (0 : Int32)) C.1 C.2.1 dX4_isProp_14 (by decide) ?_
    exact wL15 (0 : Int32) _ _ _ hF hw hS (kh_sub hl [] rfl)
  refine lv_iload_n C.1 C.2.1 dX4_isProp_0 rfl (kh_at hl 0 rfl) ?_
  refine lv_if_lt (tgt := 14) C.1 C.2.1 dX4_isProp_1 (by decide) (fun c_2 => ?_) (fun c_2 => ?_)
  · have hF := kh_ift hF c_2
    exact wL14  _ _ _ hF hw hS (kh_sub hl [] rfl)
  · have hF := kh_iff hF c_2
    refine lv_iload_n C.1 C.2.1 dX4_isProp_4 rfl (kh_at hl 0 rfl) ?_
    refine lv_bipush (v := (8 : Int32)) C.1 C.2.1 dX4_isProp_5 (by decide) ?_
    refine lv_icmp_ge (tgt := 14) C.1 C.2.1 dX4_isProp_7 (by decide) (fun c_3 => ?_) (fun c_3 => ?_)
    · have hF := kh_ift hF c_3
      exact wL14  _ _ _ hF hw hS (kh_sub hl [] rfl)
    · have hF := kh_iff hF c_3
      refine lv_iconst (v := (1 : Int32)) C.1 C.2.1 dX4_isProp_10 (by decide) ?_
      refine lv_goto (tgt := 15) C.1 C.2.1 dX4_isProp_11 (by decide) ?_
      exact wL15 (1 : Int32) _ _ _ hF hw hS (kh_sub hl [] rfl)

def f_X2_working_L47 (ρ : kh_S) (i0 : Nat) (x2_47 : Int32) : Option (Int32) := some x2_47
def f_X2_working_L41 (ρ : kh_S) (i0 : Nat) (x1_c4 : Int32) (x2_41 : Int32) (x3_41 : Int32) : Option ((Int32 × Int32) ⊕ (Int32)) := some (.inl (x2_41, x3_41 + (1 : Int32)))
def f_X2_working_L35 (ρ : kh_S) (i0 : Nat) (x1_c4 : Int32) (x2_35 : Int32) (x3_35 : Int32) : Option ((Int32 × Int32) ⊕ (Int32)) := kh_bd (f_X4_with ρ x2_35 x3_35) (fun r_1 => f_X2_working_L41 ρ i0 x1_c4 r_1 x3_35)
def f_X2_working_B4 (ρ : kh_S) (i0 : Nat) (x1_c4 : Int32) (y2_4 : Int32) (y3_4 : Int32) : Option ((Int32 × Int32) ⊕ (Int32)) := if (ρ 6 6 i0 0) ≤ y3_4 then some (.inr y2_4) else kh_gd (kh_in y3_4 8) (if (ρ 9 0 i0 y3_4.toNatClampNeg) = (-1 : Int32) then f_X2_working_L35 ρ i0 x1_c4 y2_4 y3_4 else kh_bd (f_X4_has ρ x1_c4 (ρ 9 0 i0 y3_4.toNatClampNeg)) (fun r_5 => if r_5 = 0 then f_X2_working_L35 ρ i0 x1_c4 y2_4 y3_4 else f_X2_working_L41 ρ i0 x1_c4 y2_4 y3_4))
def f_X2_working_A4 (ρ : kh_S) (i0 : Nat) (x1_c4 : Int32) : (Int32) → Option (Int32) := (fun u : Int32 => f_X2_working_L47 ρ i0 u)
def f_X2_working (ρ : kh_S) (i0 : Nat) (x1 : Int32) : Option (Int32) := kh_gd (decide (i0 < kh_n ρ 6)) (kh_bd (kh_lp (fun a : Int32 × Int32 => f_X2_working_B4 ρ i0 x1 a.1 a.2) 9999 ((0 : Int32), (0 : Int32))) (f_X2_working_A4 ρ i0 x1))
set_option maxHeartbeats 4000000 in
set_option maxRecDepth 100000 in
theorem c_X2_working (l : Launch) (D : va_G) (ca : Nat → ClassId) (A : Nat → Prop) (ad : Nat → Nat → Nat) (ρ : kh_S) (i0 : Nat) (x1 : Int32) {q0 : Int32} (hF0 : f_X2_working ρ i0 x1 = some q0) : Met l yX2_working wsX2_working ({ frames := 1, cells := 0, slots := 0, locals := 21 } : Room) (va_Pc [.ref (ad 6 i0), .int x1] (kh_I D ca A ad ρ)) (kh_Qi D ca A ad (kh_pu (f_X2_working ρ i0 x1) ρ)) 0 0 A := by
  refine Met.ofW (cc := cX2_working) (maxL := 4) (ret := (some .int)) (by decide) rfl ?_
  intro p e s m args below meth c s₁ B hml hv
  obtain ⟨rfl, hK, hw, hA⟩ := hv
  have C : kh_C p s m ([.ref (ad 6 i0), .int x1]).toArray c cX2_working 4 RX2 wsX2_working D ca A := ⟨B.exec, B.bytes, hml, findClass_of_methodNamed B.named, atoms_spec (ws := wsX2_working) B.pre, hK, hA⟩
  have hr := B.returns
  have hlocks := B.notSynchronized
  have hS : va_S A s.heap s.heap [] := va_S.rf
  have hl := kh_entry ([.ref (ad 6 i0), .int x1]) (n := 4) (kh_ac rfl (kh_ac rfl kh_an)) (Nat.le_of_ble_eq_true rfl)
  rw [lg_entry_eq]
  generalize (lg_sl ([.ref (ad 6 i0), .int x1]) ++ List.replicate (4 - (lg_sl ([.ref (ad 6 i0), .int x1])).length) Slot.unset).toArray = ls at hl ⊢
  have hl : kh_lv ls 4 [(0, .ref (ad 6 i0)), (1, .int x1)] := hl
  have k_37 := C.2.2.2.2.1 (.fieldLink RX2 37 "KeylessHall$Room" "puzzleCount" "I") (by decide +kernel)
  have k_18 := C.2.2.2.2.1 (.fieldLink RX2 18 "KeylessHall$Room" "props" "[I") (by decide +kernel)
  have hF := hF0
  unfold f_X2_working at hF
  obtain ⟨v0, hF⟩ := kh_gd_ok hF
  have v0 := of_decide_eq_true v0
  have wL47 : ∀ (x2_47 : Int32) (H : Heap) (locs : List Loc) (ls : Array Slot), f_X2_working_L47 ρ i0 x2_47 = some q0 → kh_w D ca A ad ρ H → va_S A s.heap H locs → kh_lv ls 4 [(2, .int x2_47)] → W p l e (headSpec wsX2_working ({ frames := 1, cells := 0, slots := 0, locals := 21 } : Room)).room s m ([.ref (ad 6 i0), .int x1]).toArray below meth c H locs 0 0 (MQ below (kh_Qi D ca A ad (kh_pu (f_X2_working ρ i0 x1) ρ)) ([.ref (ad 6 i0), .int x1]).toArray s 0 0 A) (F0 m 47 ls []) := by
    intro x2_47 H locs ls hF hw hS hl
    unfold f_X2_working_L47 at hF
    refine lv_iload_n C.1 C.2.1 dX2_working_47 rfl (kh_at hl 0 rfl) ?_
    exact W.iret (v := x2_47) C.1 C.2.1 hr (fun t ht hW => ⟨⟨x2_47, ρ, rfl, kh_mp (hF0.trans hF.symm), kh_bk ht hw⟩, hS.F ht⟩) hS.2.2 dX2_working_48
  have wB4 : ∀ (x1_c4 : Int32) (b : Int32), f_X2_working_A4 ρ i0 x1_c4 b = some q0 → ∀ (n : Nat) (y2_4 : Int32) (y3_4 : Int32) (H : Heap) (locs : List Loc) (ls : Array Slot), kh_lp (fun a : Int32 × Int32 => f_X2_working_B4 ρ i0 x1_c4 a.1 a.2) n (y2_4, y3_4) = some b → kh_w D ca A ad ρ H → va_S A s.heap H locs → kh_lv ls 4 [(0, .ref (ad 6 i0)), (1, .int x1_c4), (2, .int y2_4), (3, .int y3_4)] → W p l e (headSpec wsX2_working ({ frames := 1, cells := 0, slots := 0, locals := 21 } : Room)).room s m ([.ref (ad 6 i0), .int x1]).toArray below meth c H locs 0 0 (MQ below (kh_Qi D ca A ad (kh_pu (f_X2_working ρ i0 x1) ρ)) ([.ref (ad 6 i0), .int x1]).toArray s 0 0 A) (F0 m 4 ls []) := by
    intro x1_c4 b hA_4 n
    induction n with
    | zero => intro y2_4 y3_4 H locs ls h9; exact absurd h9 (fun z => nomatch z)
    | succ n ih_4 =>
      intro y2_4 y3_4 H locs ls hb_4 hw hS hl
      obtain ⟨q_4, hF, hb_4⟩ := kh_lp_ok hb_4
      have hF : f_X2_working_B4 ρ i0 x1_c4 y2_4 y3_4 = some q_4 := hF
      have wL41 : ∀ (x2_41 : Int32) (x3_41 : Int32) (H : Heap) (locs : List Loc) (ls : Array Slot), f_X2_working_L41 ρ i0 x1_c4 x2_41 x3_41 = some q_4 → kh_w D ca A ad ρ H → va_S A s.heap H locs → kh_lv ls 4 [(0, .ref (ad 6 i0)), (1, .int x1_c4), (2, .int x2_41), (3, .int x3_41)] → W p l e (headSpec wsX2_working ({ frames := 1, cells := 0, slots := 0, locals := 21 } : Room)).room s m ([.ref (ad 6 i0), .int x1]).toArray below meth c H locs 0 0 (MQ below (kh_Qi D ca A ad (kh_pu (f_X2_working ρ i0 x1) ρ)) ([.ref (ad 6 i0), .int x1]).toArray s 0 0 A) (F0 m 41 ls []) := by
        intro x2_41 x3_41 H locs ls hF hw hS hl
        unfold f_X2_working_L41 at hF
        refine kh_iinc (v := x3_41 + (1 : Int32)) (lv' := [(3, .int (x3_41 + (1 : Int32))), (0, .ref (ad 6 i0)), (1, .int x1_c4), (2, .int x2_41)]) C.1 C.2.1 dX2_working_41 hl (k := 3) rfl (by rfl) (by decide) rfl (fun ls hl => ?_)
        refine lv_goto (tgt := 4) C.1 C.2.1 dX2_working_44 (by decide) ?_
        have e9 := Option.some.inj hF
        rcases hb_4 with ⟨a9, h8, h9⟩ | h8
        · have h7 := Sum.inl.inj (e9.trans h8)
          subst h7
          exact ih_4 _ _ _ _ _ h9 hw hS (kh_sub hl [1, 2, 3, 0] rfl)
        · exact absurd (e9.trans h8) (fun z => nomatch z)
      have wL35 : ∀ (x2_35 : Int32) (x3_35 : Int32) (H : Heap) (locs : List Loc) (ls : Array Slot), f_X2_working_L35 ρ i0 x1_c4 x2_35 x3_35 = some q_4 → kh_w D ca A ad ρ H → va_S A s.heap H locs → kh_lv ls 4 [(0, .ref (ad 6 i0)), (1, .int x1_c4), (2, .int x2_35), (3, .int x3_35)] → W p l e (headSpec wsX2_working ({ frames := 1, cells := 0, slots := 0, locals := 21 } : Room)).room s m ([.ref (ad 6 i0), .int x1]).toArray below meth c H locs 0 0 (MQ below (kh_Qi D ca A ad (kh_pu (f_X2_working ρ i0 x1) ρ)) ([.ref (ad 6 i0), .int x1]).toArray s 0 0 A) (F0 m 35 ls []) := by
        intro x2_35 x3_35 H locs ls hF hw hS hl
        unfold f_X2_working_L35 at hF
        refine lv_iload_n C.1 C.2.1 dX2_working_35 rfl (kh_at hl 2 rfl) ?_
        refine lv_iload_n C.1 C.2.1 dX2_working_36 rfl (kh_at hl 3 rfl) ?_
        obtain ⟨r_1, h_1, hF⟩ := kh_bd_ok hF
        refine kh_calli (va_runSN (As := [.int x2_35, .int x3_35]) (rest := []) ⟨C.1, C.2.1, C.2.2.1, C.2.2.2.1, C.2.2.2.2.1⟩ (c_X4_with l D ca A ad ρ x2_35 x3_35 h_1) ⟨va_cnB 2 C.2.2.2.2.1 gX2_working_X4_with_n44 rfl rfl rfl C.2.2.2.2.2.1.2.2.2.2.1 (C.2.2.2.2.1 (.initialized RX4) (by decide +kernel)) (by decide +kernel) ⟨Nat.le_of_ble_eq_true rfl, Nat.le_of_ble_eq_true rfl⟩, C.2.2.2.2.1 (.static yX4_with) (by decide +kernel), trivial⟩ (kh_preS C hw hS) rfl rfl hl.1.1 rfl (lv_room (kh_sum kh_an (Nat.le_of_ble_eq_true rfl))) dX2_working_37 ⟨Nat.le_of_ble_eq_true rfl, Nat.le_of_ble_eq_true rfl⟩) hS (kh_mp h_1) (fun H locs hw hS => ?_)
        refine kh_istore_n (lv' := [(2, .int r_1), (0, .ref (ad 6 i0)), (1, .int x1_c4), (3, .int x3_35)]) C.1 C.2.1 dX2_working_40 rfl hl (by decide) rfl (fun ls hl => ?_)
        exact wL41 r_1 x3_35 _ _ _ hF hw hS (kh_sub hl [1, 2, 0, 3] rfl)
      unfold f_X2_working_B4 at hF
      refine lv_iload_n C.1 C.2.1 dX2_working_4 rfl (kh_at hl 3 rfl) ?_
      refine lv_aload_n C.1 C.2.1 dX2_working_5 rfl (kh_at hl 0 rfl) ?_
      refine kh_get C hw 6 6 rfl v0 kh_kd6 (Cn := RX2) (T := TX2) (N := 13) rfl (Nat.le_of_ble_eq_true rfl) k_37 (kf_6_6 ad ρ i0) dX2_working_6 ?_
      refine lv_icmp_ge (tgt := 47) C.1 C.2.1 dX2_working_9 (by decide) (fun c_2 => ?_) (fun c_2 => ?_)
      · have hF := kh_ift hF c_2
        have e9 := Option.some.inj hF
        rcases hb_4 with ⟨a9, h8, h9⟩ | h8
        · exact absurd (e9.trans h8) (fun z => nomatch z)
        have h7 := Sum.inr.inj (e9.trans h8)
        have hF := (congrArg (f_X2_working_A4 ρ i0 x1_c4) h7).trans hA_4
        exact wL47 y2_4 _ _ _ hF hw hS (kh_sub hl [2] rfl)
      · have hF := kh_iff hF c_2
        refine lv_aload_n C.1 C.2.1 dX2_working_12 rfl (kh_at hl 0 rfl) ?_
        refine kh_get C hw 6 4 rfl v0 kh_kd6 (Cn := RX2) (T := TX2) (N := 13) rfl (Nat.le_of_ble_eq_true rfl) k_18 (kf_6_4 ad ρ i0) dX2_working_13 ?_
        refine lv_iload_n C.1 C.2.1 dX2_working_16 rfl (kh_at hl 3 rfl) ?_
        obtain ⟨g_3, hF⟩ := kh_gd_ok hF
        refine kh_iald C hw 9 rfl v0 kh_kd9 g_3 dX2_working_17 ?_
        refine lv_iconst (v := (-1 : Int32)) C.1 C.2.1 dX2_working_18 (by decide) ?_
        refine lv_icmp_eq (tgt := 35) C.1 C.2.1 dX2_working_19 (by decide) (fun c_4 => ?_) (fun c_4 => ?_)
        · have hF := kh_ift hF c_4
          exact wL35 y2_4 y3_4 _ _ _ hF hw hS (kh_sub hl [0, 1, 2, 3] rfl)
        · have hF := kh_iff hF c_4
          refine lv_iload_n C.1 C.2.1 dX2_working_22 rfl (kh_at hl 1 rfl) ?_
          refine lv_aload_n C.1 C.2.1 dX2_working_23 rfl (kh_at hl 0 rfl) ?_
          refine kh_get C hw 6 4 rfl v0 kh_kd6 (Cn := RX2) (T := TX2) (N := 13) rfl (Nat.le_of_ble_eq_true rfl) k_18 (kf_6_4 ad ρ i0) dX2_working_24 ?_
          refine lv_iload_n C.1 C.2.1 dX2_working_27 rfl (kh_at hl 3 rfl) ?_
          refine kh_iald C hw 9 rfl v0 kh_kd9 g_3 dX2_working_28 ?_
          obtain ⟨r_5, h_5, hF⟩ := kh_bd_ok hF
          refine kh_calli (va_runSN (As := [.int x1_c4, .int (ρ 9 0 i0 y3_4.toNatClampNeg)]) (rest := []) ⟨C.1, C.2.1, C.2.2.1, C.2.2.2.1, C.2.2.2.2.1⟩ (c_X4_has l D ca A ad ρ x1_c4 (ρ 9 0 i0 y3_4.toNatClampNeg) h_5) ⟨va_cnB 2 C.2.2.2.2.1 gX2_working_X4_has_n40 rfl rfl rfl C.2.2.2.2.2.1.2.2.2.1 (C.2.2.2.2.1 (.initialized RX4) (by decide +kernel)) (by decide +kernel) ⟨Nat.le_of_ble_eq_true rfl, Nat.le_of_ble_eq_true rfl⟩, C.2.2.2.2.1 (.static yX4_has) (by decide +kernel), trivial⟩ (kh_preS C hw hS) rfl rfl hl.1.1 rfl (lv_room (kh_sum kh_an (Nat.le_of_ble_eq_true rfl))) dX2_working_29 ⟨Nat.le_of_ble_eq_true rfl, Nat.le_of_ble_eq_true rfl⟩) hS (kh_mp h_5) (fun H locs hw hS => ?_)
          refine lv_if_ne (tgt := 41) C.1 C.2.1 dX2_working_32 (by decide) (fun c_6 => ?_) (fun c_6 => ?_)
          · have hF := kh_iff hF c_6
            exact wL41 y2_4 y3_4 _ _ _ hF hw hS (kh_sub hl [0, 1, 2, 3] rfl)
          · have hF := kh_ift hF c_6
            exact wL35 y2_4 y3_4 _ _ _ hF hw hS (kh_sub hl [0, 1, 2, 3] rfl)
  refine lv_iconst (v := (0 : Int32)) C.1 C.2.1 dX2_working_0 (by decide) ?_
  refine kh_istore_n (lv' := [(2, .int (0 : Int32)), (0, .ref (ad 6 i0)), (1, .int x1)]) C.1 C.2.1 dX2_working_1 rfl hl (by decide) rfl (fun ls hl => ?_)
  refine lv_iconst (v := (0 : Int32)) C.1 C.2.1 dX2_working_2 (by decide) ?_
  refine kh_istore_n (lv' := [(3, .int (0 : Int32)), (2, .int (0 : Int32)), (0, .ref (ad 6 i0)), (1, .int x1)]) C.1 C.2.1 dX2_working_3 rfl hl (by decide) rfl (fun ls hl => ?_)
  obtain ⟨b_4, hb_4, hF⟩ := kh_bd_ok hF
  exact wB4 x1 b_4 hF _ (0 : Int32) (0 : Int32) _ _ _ hb_4 hw hS (kh_sub hl [2, 3, 1, 0] rfl)

def f_X2_isSolvable (ρ : kh_S) (i0 : Nat) (x1 : Int32) (x2 : Int32) : Option (Int32) := kh_gd (decide (i0 < kh_n ρ 6)) (kh_gd (kh_in x1 8) (kh_bd (f_X4_isWithin ρ (ρ 7 0 i0 x1.toNatClampNeg) x2) (fun r_2 => kh_gd (kh_b r_2) (some r_2))))
set_option maxHeartbeats 4000000 in
set_option maxRecDepth 100000 in
theorem c_X2_isSolvable (l : Launch) (D : va_G) (ca : Nat → ClassId) (A : Nat → Prop) (ad : Nat → Nat → Nat) (ρ : kh_S) (i0 : Nat) (x1 : Int32) (x2 : Int32) {q0 : Int32} (hF0 : f_X2_isSolvable ρ i0 x1 x2 = some q0) : Met l yX2_isSolvable wsX2_isSolvable ({ frames := 1, cells := 0, slots := 0, locals := 21 } : Room) (va_Pc [.ref (ad 6 i0), .int x1, .int x2] (kh_I D ca A ad ρ)) (kh_Qi D ca A ad (kh_pu (f_X2_isSolvable ρ i0 x1 x2) ρ)) 0 0 A := by
  refine Met.ofW (cc := cX2_isSolvable) (maxL := 3) (ret := (some .boolean)) (by decide) rfl ?_
  intro p e s m args below meth c s₁ B hml hv
  obtain ⟨rfl, hK, hw, hA⟩ := hv
  have C : kh_C p s m ([.ref (ad 6 i0), .int x1, .int x2]).toArray c cX2_isSolvable 3 RX2 wsX2_isSolvable D ca A := ⟨B.exec, B.bytes, hml, findClass_of_methodNamed B.named, atoms_spec (ws := wsX2_isSolvable) B.pre, hK, hA⟩
  have hr := B.returns
  have hlocks := B.notSynchronized
  have hS : va_S A s.heap s.heap [] := va_S.rf
  have hl := kh_entry ([.ref (ad 6 i0), .int x1, .int x2]) (n := 3) (kh_ac rfl (kh_ac rfl (kh_ac rfl kh_an))) (Nat.le_of_ble_eq_true rfl)
  rw [lg_entry_eq]
  generalize (lg_sl ([.ref (ad 6 i0), .int x1, .int x2]) ++ List.replicate (3 - (lg_sl ([.ref (ad 6 i0), .int x1, .int x2])).length) Slot.unset).toArray = ls at hl ⊢
  have hl : kh_lv ls 3 [(0, .ref (ad 6 i0)), (1, .int x1), (2, .int x2)] := hl
  have k_9 := C.2.2.2.2.1 (.fieldLink RX2 9 "KeylessHall$Room" "needs" "[I") (by decide +kernel)
  have hF := hF0
  unfold f_X2_isSolvable at hF
  obtain ⟨v0, hF⟩ := kh_gd_ok hF
  have v0 := of_decide_eq_true v0
  refine lv_aload_n C.1 C.2.1 dX2_isSolvable_0 rfl (kh_at hl 0 rfl) ?_
  refine kh_get C hw 6 2 rfl v0 kh_kd6 (Cn := RX2) (T := TX2) (N := 13) rfl (Nat.le_of_ble_eq_true rfl) k_9 (kf_6_2 ad ρ i0) dX2_isSolvable_1 ?_
  refine lv_iload_n C.1 C.2.1 dX2_isSolvable_4 rfl (kh_at hl 1 rfl) ?_
  obtain ⟨g_1, hF⟩ := kh_gd_ok hF
  refine kh_iald C hw 7 rfl v0 kh_kd7 g_1 dX2_isSolvable_5 ?_
  refine lv_iload_n C.1 C.2.1 dX2_isSolvable_6 rfl (kh_at hl 2 rfl) ?_
  obtain ⟨r_2, h_2, hF⟩ := kh_bd_ok hF
  refine kh_calli (va_runSN (As := [.int (ρ 7 0 i0 x1.toNatClampNeg), .int x2]) (rest := []) ⟨C.1, C.2.1, C.2.2.1, C.2.2.2.1, C.2.2.2.2.1⟩ (c_X4_isWithin l D ca A ad ρ (ρ 7 0 i0 x1.toNatClampNeg) x2 h_2) ⟨va_cnB 2 C.2.2.2.2.1 gX2_isSolvable_X4_isWithin_n48 rfl rfl rfl C.2.2.2.2.2.1.2.2.2.2.2.1 (C.2.2.2.2.1 (.initialized RX4) (by decide +kernel)) (by decide +kernel) ⟨Nat.le_of_ble_eq_true rfl, Nat.le_of_ble_eq_true rfl⟩, C.2.2.2.2.1 (.static yX4_isWithin) (by decide +kernel), trivial⟩ (kh_preS C hw hS) rfl rfl hl.1.1 rfl (lv_room (kh_sum kh_an (Nat.le_of_ble_eq_true rfl))) dX2_isSolvable_7 ⟨Nat.le_of_ble_eq_true rfl, Nat.le_of_ble_eq_true rfl⟩) hS (kh_mp h_2) (fun H locs hw hS => ?_)
  obtain ⟨g_3, hF⟩ := kh_gd_ok hF
  exact W.zret (v := r_2) (ty := .boolean) C.1 C.2.1 hr (kh_b_ok g_3).1 (fun t ht hW => ⟨⟨r_2, ρ, rfl, kh_mp (hF0.trans hF.symm), kh_bk ht hw⟩, hS.F ht⟩) hS.2.2 dX2_isSolvable_10

def f_X2_givenBy_L35 (ρ : kh_S) (i0 : Nat) (x2_35 : Int32) : Option (Int32) := some x2_35
def f_X2_givenBy_L29 (ρ : kh_S) (i0 : Nat) (x1_c4 : Int32) (x2_29 : Int32) (x3_29 : Int32) : Option ((Int32 × Int32) ⊕ (Int32)) := some (.inl (x2_29, x3_29 + (1 : Int32)))
def f_X2_givenBy_B4 (ρ : kh_S) (i0 : Nat) (x1_c4 : Int32) (y2_4 : Int32) (y3_4 : Int32) : Option ((Int32 × Int32) ⊕ (Int32)) := if (ρ 6 6 i0 0) ≤ y3_4 then some (.inr y2_4) else kh_bd (f_X4_has ρ x1_c4 y3_4) (fun r_2 => if r_2 = 0 then f_X2_givenBy_L29 ρ i0 x1_c4 y2_4 y3_4 else kh_gd (kh_in y3_4 8) (f_X2_givenBy_L29 ρ i0 x1_c4 (y2_4 ||| (ρ 8 0 i0 y3_4.toNatClampNeg)) y3_4))
def f_X2_givenBy_A4 (ρ : kh_S) (i0 : Nat) (x1_c4 : Int32) : (Int32) → Option (Int32) := (fun u : Int32 => f_X2_givenBy_L35 ρ i0 u)
def f_X2_givenBy (ρ : kh_S) (i0 : Nat) (x1 : Int32) : Option (Int32) := kh_gd (decide (i0 < kh_n ρ 6)) (kh_bd (kh_lp (fun a : Int32 × Int32 => f_X2_givenBy_B4 ρ i0 x1 a.1 a.2) 9999 ((0 : Int32), (0 : Int32))) (f_X2_givenBy_A4 ρ i0 x1))
set_option maxHeartbeats 4000000 in
set_option maxRecDepth 100000 in
theorem c_X2_givenBy (l : Launch) (D : va_G) (ca : Nat → ClassId) (A : Nat → Prop) (ad : Nat → Nat → Nat) (ρ : kh_S) (i0 : Nat) (x1 : Int32) {q0 : Int32} (hF0 : f_X2_givenBy ρ i0 x1 = some q0) : Met l yX2_givenBy wsX2_givenBy ({ frames := 1, cells := 0, slots := 0, locals := 21 } : Room) (va_Pc [.ref (ad 6 i0), .int x1] (kh_I D ca A ad ρ)) (kh_Qi D ca A ad (kh_pu (f_X2_givenBy ρ i0 x1) ρ)) 0 0 A := by
  refine Met.ofW (cc := cX2_givenBy) (maxL := 4) (ret := (some .int)) (by decide) rfl ?_
  intro p e s m args below meth c s₁ B hml hv
  obtain ⟨rfl, hK, hw, hA⟩ := hv
  have C : kh_C p s m ([.ref (ad 6 i0), .int x1]).toArray c cX2_givenBy 4 RX2 wsX2_givenBy D ca A := ⟨B.exec, B.bytes, hml, findClass_of_methodNamed B.named, atoms_spec (ws := wsX2_givenBy) B.pre, hK, hA⟩
  have hr := B.returns
  have hlocks := B.notSynchronized
  have hS : va_S A s.heap s.heap [] := va_S.rf
  have hl := kh_entry ([.ref (ad 6 i0), .int x1]) (n := 4) (kh_ac rfl (kh_ac rfl kh_an)) (Nat.le_of_ble_eq_true rfl)
  rw [lg_entry_eq]
  generalize (lg_sl ([.ref (ad 6 i0), .int x1]) ++ List.replicate (4 - (lg_sl ([.ref (ad 6 i0), .int x1])).length) Slot.unset).toArray = ls at hl ⊢
  have hl : kh_lv ls 4 [(0, .ref (ad 6 i0)), (1, .int x1)] := hl
  have k_37 := C.2.2.2.2.1 (.fieldLink RX2 37 "KeylessHall$Room" "puzzleCount" "I") (by decide +kernel)
  have k_15 := C.2.2.2.2.1 (.fieldLink RX2 15 "KeylessHall$Room" "gives" "[I") (by decide +kernel)
  have hF := hF0
  unfold f_X2_givenBy at hF
  obtain ⟨v0, hF⟩ := kh_gd_ok hF
  have v0 := of_decide_eq_true v0
  have wL35 : ∀ (x2_35 : Int32) (H : Heap) (locs : List Loc) (ls : Array Slot), f_X2_givenBy_L35 ρ i0 x2_35 = some q0 → kh_w D ca A ad ρ H → va_S A s.heap H locs → kh_lv ls 4 [(2, .int x2_35)] → W p l e (headSpec wsX2_givenBy ({ frames := 1, cells := 0, slots := 0, locals := 21 } : Room)).room s m ([.ref (ad 6 i0), .int x1]).toArray below meth c H locs 0 0 (MQ below (kh_Qi D ca A ad (kh_pu (f_X2_givenBy ρ i0 x1) ρ)) ([.ref (ad 6 i0), .int x1]).toArray s 0 0 A) (F0 m 35 ls []) := by
    intro x2_35 H locs ls hF hw hS hl
    unfold f_X2_givenBy_L35 at hF
    refine lv_iload_n C.1 C.2.1 dX2_givenBy_35 rfl (kh_at hl 0 rfl) ?_
    exact W.iret (v := x2_35) C.1 C.2.1 hr (fun t ht hW => ⟨⟨x2_35, ρ, rfl, kh_mp (hF0.trans hF.symm), kh_bk ht hw⟩, hS.F ht⟩) hS.2.2 dX2_givenBy_36
  have wB4 : ∀ (x1_c4 : Int32) (b : Int32), f_X2_givenBy_A4 ρ i0 x1_c4 b = some q0 → ∀ (n : Nat) (y2_4 : Int32) (y3_4 : Int32) (H : Heap) (locs : List Loc) (ls : Array Slot), kh_lp (fun a : Int32 × Int32 => f_X2_givenBy_B4 ρ i0 x1_c4 a.1 a.2) n (y2_4, y3_4) = some b → kh_w D ca A ad ρ H → va_S A s.heap H locs → kh_lv ls 4 [(0, .ref (ad 6 i0)), (1, .int x1_c4), (2, .int y2_4), (3, .int y3_4)] → W p l e (headSpec wsX2_givenBy ({ frames := 1, cells := 0, slots := 0, locals := 21 } : Room)).room s m ([.ref (ad 6 i0), .int x1]).toArray below meth c H locs 0 0 (MQ below (kh_Qi D ca A ad (kh_pu (f_X2_givenBy ρ i0 x1) ρ)) ([.ref (ad 6 i0), .int x1]).toArray s 0 0 A) (F0 m 4 ls []) := by
    intro x1_c4 b hA_4 n
    induction n with
    | zero => intro y2_4 y3_4 H locs ls h9; exact absurd h9 (fun z => nomatch z)
    | succ n ih_4 =>
      intro y2_4 y3_4 H locs ls hb_4 hw hS hl
      obtain ⟨q_4, hF, hb_4⟩ := kh_lp_ok hb_4
      have hF : f_X2_givenBy_B4 ρ i0 x1_c4 y2_4 y3_4 = some q_4 := hF
      have wL29 : ∀ (x2_29 : Int32) (x3_29 : Int32) (H : Heap) (locs : List Loc) (ls : Array Slot), f_X2_givenBy_L29 ρ i0 x1_c4 x2_29 x3_29 = some q_4 → kh_w D ca A ad ρ H → va_S A s.heap H locs → kh_lv ls 4 [(0, .ref (ad 6 i0)), (1, .int x1_c4), (2, .int x2_29), (3, .int x3_29)] → W p l e (headSpec wsX2_givenBy ({ frames := 1, cells := 0, slots := 0, locals := 21 } : Room)).room s m ([.ref (ad 6 i0), .int x1]).toArray below meth c H locs 0 0 (MQ below (kh_Qi D ca A ad (kh_pu (f_X2_givenBy ρ i0 x1) ρ)) ([.ref (ad 6 i0), .int x1]).toArray s 0 0 A) (F0 m 29 ls []) := by
        intro x2_29 x3_29 H locs ls hF hw hS hl
        unfold f_X2_givenBy_L29 at hF
        refine kh_iinc (v := x3_29 + (1 : Int32)) (lv' := [(3, .int (x3_29 + (1 : Int32))), (0, .ref (ad 6 i0)), (1, .int x1_c4), (2, .int x2_29)]) C.1 C.2.1 dX2_givenBy_29 hl (k := 3) rfl (by rfl) (by decide) rfl (fun ls hl => ?_)
        refine lv_goto (tgt := 4) C.1 C.2.1 dX2_givenBy_32 (by decide) ?_
        have e9 := Option.some.inj hF
        rcases hb_4 with ⟨a9, h8, h9⟩ | h8
        · have h7 := Sum.inl.inj (e9.trans h8)
          subst h7
          exact ih_4 _ _ _ _ _ h9 hw hS (kh_sub hl [1, 2, 3, 0] rfl)
        · exact absurd (e9.trans h8) (fun z => nomatch z)
      unfold f_X2_givenBy_B4 at hF
      refine lv_iload_n C.1 C.2.1 dX2_givenBy_4 rfl (kh_at hl 3 rfl) ?_
      refine lv_aload_n C.1 C.2.1 dX2_givenBy_5 rfl (kh_at hl 0 rfl) ?_
      refine kh_get C hw 6 6 rfl v0 kh_kd6 (Cn := RX2) (T := TX2) (N := 13) rfl (Nat.le_of_ble_eq_true rfl) k_37 (kf_6_6 ad ρ i0) dX2_givenBy_6 ?_
      refine lv_icmp_ge (tgt := 35) C.1 C.2.1 dX2_givenBy_9 (by decide) (fun c_1 => ?_) (fun c_1 => ?_)
      · have hF := kh_ift hF c_1
        have e9 := Option.some.inj hF
        rcases hb_4 with ⟨a9, h8, h9⟩ | h8
        · exact absurd (e9.trans h8) (fun z => nomatch z)
        have h7 := Sum.inr.inj (e9.trans h8)
        have hF := (congrArg (f_X2_givenBy_A4 ρ i0 x1_c4) h7).trans hA_4
        exact wL35 y2_4 _ _ _ hF hw hS (kh_sub hl [2] rfl)
      · have hF := kh_iff hF c_1
        refine lv_iload_n C.1 C.2.1 dX2_givenBy_12 rfl (kh_at hl 1 rfl) ?_
        refine lv_iload_n C.1 C.2.1 dX2_givenBy_13 rfl (kh_at hl 3 rfl) ?_
        obtain ⟨r_2, h_2, hF⟩ := kh_bd_ok hF
        refine kh_calli (va_runSN (As := [.int x1_c4, .int y3_4]) (rest := []) ⟨C.1, C.2.1, C.2.2.1, C.2.2.2.1, C.2.2.2.2.1⟩ (c_X4_has l D ca A ad ρ x1_c4 y3_4 h_2) ⟨va_cnB 2 C.2.2.2.2.1 gX2_givenBy_X4_has_n40 rfl rfl rfl C.2.2.2.2.2.1.2.2.2.1 (C.2.2.2.2.1 (.initialized RX4) (by decide +kernel)) (by decide +kernel) ⟨Nat.le_of_ble_eq_true rfl, Nat.le_of_ble_eq_true rfl⟩, C.2.2.2.2.1 (.static yX4_has) (by decide +kernel), trivial⟩ (kh_preS C hw hS) rfl rfl hl.1.1 rfl (lv_room (kh_sum kh_an (Nat.le_of_ble_eq_true rfl))) dX2_givenBy_14 ⟨Nat.le_of_ble_eq_true rfl, Nat.le_of_ble_eq_true rfl⟩) hS (kh_mp h_2) (fun H locs hw hS => ?_)
        refine lv_if_eq (tgt := 29) C.1 C.2.1 dX2_givenBy_17 (by decide) (fun c_3 => ?_) (fun c_3 => ?_)
        · have hF := kh_ift hF c_3
          exact wL29 y2_4 y3_4 _ _ _ hF hw hS (kh_sub hl [0, 1, 2, 3] rfl)
        · have hF := kh_iff hF c_3
          refine lv_iload_n C.1 C.2.1 dX2_givenBy_20 rfl (kh_at hl 2 rfl) ?_
          refine lv_aload_n C.1 C.2.1 dX2_givenBy_21 rfl (kh_at hl 0 rfl) ?_
          refine kh_get C hw 6 3 rfl v0 kh_kd6 (Cn := RX2) (T := TX2) (N := 13) rfl (Nat.le_of_ble_eq_true rfl) k_15 (kf_6_3 ad ρ i0) dX2_givenBy_22 ?_
          refine lv_iload_n C.1 C.2.1 dX2_givenBy_25 rfl (kh_at hl 3 rfl) ?_
          obtain ⟨g_4, hF⟩ := kh_gd_ok hF
          refine kh_iald C hw 8 rfl v0 kh_kd8 g_4 dX2_givenBy_26 ?_
          refine lv_ior C.1 C.2.1 dX2_givenBy_27 ?_
          refine kh_istore_n (lv' := [(2, .int (y2_4 ||| (ρ 8 0 i0 y3_4.toNatClampNeg))), (0, .ref (ad 6 i0)), (1, .int x1_c4), (3, .int y3_4)]) C.1 C.2.1 dX2_givenBy_28 rfl hl (by decide) rfl (fun ls hl => ?_)
          exact wL29 (y2_4 ||| (ρ 8 0 i0 y3_4.toNatClampNeg)) y3_4 _ _ _ hF hw hS (kh_sub hl [1, 2, 0, 3] rfl)
  refine lv_iconst (v := (0 : Int32)) C.1 C.2.1 dX2_givenBy_0 (by decide) ?_
  refine kh_istore_n (lv' := [(2, .int (0 : Int32)), (0, .ref (ad 6 i0)), (1, .int x1)]) C.1 C.2.1 dX2_givenBy_1 rfl hl (by decide) rfl (fun ls hl => ?_)
  refine lv_iconst (v := (0 : Int32)) C.1 C.2.1 dX2_givenBy_2 (by decide) ?_
  refine kh_istore_n (lv' := [(3, .int (0 : Int32)), (2, .int (0 : Int32)), (0, .ref (ad 6 i0)), (1, .int x1)]) C.1 C.2.1 dX2_givenBy_3 rfl hl (by decide) rfl (fun ls hl => ?_)
  obtain ⟨b_4, hb_4, hF⟩ := kh_bd_ok hF
  exact wB4 x1 b_4 hF _ (0 : Int32) (0 : Int32) _ _ _ hb_4 hw hS (kh_sub hl [2, 3, 1, 0] rfl)

def f_X2_reach_L67 (ρ : kh_S) (i0 : Nat) (x3_67 : Int32) : Option (Int32) := some x3_67
def f_X2_reach_L61 (ρ : kh_S) (i0 : Nat) (x2_c5 : Int32) (x3_61 : Int32) (x4_61 : Int32) : Option ((Int32 × Int32) ⊕ (Int32)) := some (.inl (x3_61, x4_61 + (1 : Int32)))
def f_X2_reach_L55 (ρ : kh_S) (i0 : Nat) (x2_c5 : Int32) (x4_c17 : Int32) (x3_55 : Int32) (x5_55 : Int32) : Option ((Int32 × Int32) ⊕ (Int32)) := some (.inl (x3_55, x5_55 + (1 : Int32)))
def f_X2_reach_B17 (ρ : kh_S) (i0 : Nat) (x2_c5 : Int32) (x4_c17 : Int32) (y3_17 : Int32) (y5_17 : Int32) : Option ((Int32 × Int32) ⊕ (Int32)) := if (ρ 6 6 i0 0) ≤ y5_17 then some (.inr y3_17) else kh_bd (f_X4_has ρ x2_c5 y5_17) (fun r_2 => if r_2 = 0 then f_X2_reach_L55 ρ i0 x2_c5 x4_c17 y3_17 y5_17 else kh_bd (f_X2_isSolvable ρ i0 y5_17 y3_17) (fun r_4 => if r_4 = 0 then f_X2_reach_L55 ρ i0 x2_c5 x4_c17 y3_17 y5_17 else kh_gd (kh_in y5_17 8) (f_X2_reach_L55 ρ i0 x2_c5 x4_c17 (y3_17 ||| (ρ 8 0 i0 y5_17.toNatClampNeg)) y5_17)))
def f_X2_reach_A17 (ρ : kh_S) (i0 : Nat) (x2_c5 : Int32) (x4_c17 : Int32) : (Int32) → Option ((Int32 × Int32) ⊕ (Int32)) := (fun u : Int32 => f_X2_reach_L61 ρ i0 x2_c5 u x4_c17)
def f_X2_reach_B5 (ρ : kh_S) (i0 : Nat) (x2_c5 : Int32) (y3_5 : Int32) (y4_5 : Int32) : Option ((Int32 × Int32) ⊕ (Int32)) := if (ρ 6 6 i0 0) ≤ y4_5 then some (.inr y3_5) else kh_bd (kh_lp (fun a : Int32 × Int32 => f_X2_reach_B17 ρ i0 x2_c5 y4_5 a.1 a.2) 9999 (y3_5, (0 : Int32))) (f_X2_reach_A17 ρ i0 x2_c5 y4_5)
def f_X2_reach_A5 (ρ : kh_S) (i0 : Nat) (x2_c5 : Int32) : (Int32) → Option (Int32) := (fun u : Int32 => f_X2_reach_L67 ρ i0 u)
def f_X2_reach (ρ : kh_S) (i0 : Nat) (x1 : Int32) (x2 : Int32) : Option (Int32) := kh_gd (decide (i0 < kh_n ρ 6)) (kh_bd (kh_lp (fun a : Int32 × Int32 => f_X2_reach_B5 ρ i0 x2 a.1 a.2) 9999 (x1, (0 : Int32))) (f_X2_reach_A5 ρ i0 x2))
set_option maxHeartbeats 4000000 in
set_option maxRecDepth 100000 in
theorem c_X2_reach (l : Launch) (D : va_G) (ca : Nat → ClassId) (A : Nat → Prop) (ad : Nat → Nat → Nat) (ρ : kh_S) (i0 : Nat) (x1 : Int32) (x2 : Int32) {q0 : Int32} (hF0 : f_X2_reach ρ i0 x1 x2 = some q0) : Met l yX2_reach wsX2_reach ({ frames := 2, cells := 0, slots := 0, locals := 43 } : Room) (va_Pc [.ref (ad 6 i0), .int x1, .int x2] (kh_I D ca A ad ρ)) (kh_Qi D ca A ad (kh_pu (f_X2_reach ρ i0 x1 x2) ρ)) 0 0 A := by
  refine Met.ofW (cc := cX2_reach) (maxL := 6) (ret := (some .int)) (by decide) rfl ?_
  intro p e s m args below meth c s₁ B hml hv
  obtain ⟨rfl, hK, hw, hA⟩ := hv
  have C : kh_C p s m ([.ref (ad 6 i0), .int x1, .int x2]).toArray c cX2_reach 6 RX2 wsX2_reach D ca A := ⟨B.exec, B.bytes, hml, findClass_of_methodNamed B.named, atoms_spec (ws := wsX2_reach) B.pre, hK, hA⟩
  have hr := B.returns
  have hlocks := B.notSynchronized
  have hS : va_S A s.heap s.heap [] := va_S.rf
  have hl := kh_entry ([.ref (ad 6 i0), .int x1, .int x2]) (n := 6) (kh_ac rfl (kh_ac rfl (kh_ac rfl kh_an))) (Nat.le_of_ble_eq_true rfl)
  rw [lg_entry_eq]
  generalize (lg_sl ([.ref (ad 6 i0), .int x1, .int x2]) ++ List.replicate (6 - (lg_sl ([.ref (ad 6 i0), .int x1, .int x2])).length) Slot.unset).toArray = ls at hl ⊢
  have hl : kh_lv ls 6 [(0, .ref (ad 6 i0)), (1, .int x1), (2, .int x2)] := hl
  have k_37 := C.2.2.2.2.1 (.fieldLink RX2 37 "KeylessHall$Room" "puzzleCount" "I") (by decide +kernel)
  have k_15 := C.2.2.2.2.1 (.fieldLink RX2 15 "KeylessHall$Room" "gives" "[I") (by decide +kernel)
  have hF := hF0
  unfold f_X2_reach at hF
  obtain ⟨v0, hF⟩ := kh_gd_ok hF
  have v0 := of_decide_eq_true v0
  have wL67 : ∀ (x3_67 : Int32) (H : Heap) (locs : List Loc) (ls : Array Slot), f_X2_reach_L67 ρ i0 x3_67 = some q0 → kh_w D ca A ad ρ H → va_S A s.heap H locs → kh_lv ls 6 [(3, .int x3_67)] → W p l e (headSpec wsX2_reach ({ frames := 2, cells := 0, slots := 0, locals := 43 } : Room)).room s m ([.ref (ad 6 i0), .int x1, .int x2]).toArray below meth c H locs 0 0 (MQ below (kh_Qi D ca A ad (kh_pu (f_X2_reach ρ i0 x1 x2) ρ)) ([.ref (ad 6 i0), .int x1, .int x2]).toArray s 0 0 A) (F0 m 67 ls []) := by
    intro x3_67 H locs ls hF hw hS hl
    unfold f_X2_reach_L67 at hF
    refine lv_iload_n C.1 C.2.1 dX2_reach_67 rfl (kh_at hl 0 rfl) ?_
    exact W.iret (v := x3_67) C.1 C.2.1 hr (fun t ht hW => ⟨⟨x3_67, ρ, rfl, kh_mp (hF0.trans hF.symm), kh_bk ht hw⟩, hS.F ht⟩) hS.2.2 dX2_reach_68
  have wB5 : ∀ (x2_c5 : Int32) (b : Int32), f_X2_reach_A5 ρ i0 x2_c5 b = some q0 → ∀ (n : Nat) (y3_5 : Int32) (y4_5 : Int32) (H : Heap) (locs : List Loc) (ls : Array Slot), kh_lp (fun a : Int32 × Int32 => f_X2_reach_B5 ρ i0 x2_c5 a.1 a.2) n (y3_5, y4_5) = some b → kh_w D ca A ad ρ H → va_S A s.heap H locs → kh_lv ls 6 [(0, .ref (ad 6 i0)), (2, .int x2_c5), (3, .int y3_5), (4, .int y4_5)] → W p l e (headSpec wsX2_reach ({ frames := 2, cells := 0, slots := 0, locals := 43 } : Room)).room s m ([.ref (ad 6 i0), .int x1, .int x2]).toArray below meth c H locs 0 0 (MQ below (kh_Qi D ca A ad (kh_pu (f_X2_reach ρ i0 x1 x2) ρ)) ([.ref (ad 6 i0), .int x1, .int x2]).toArray s 0 0 A) (F0 m 5 ls []) := by
    intro x2_c5 b hA_5 n
    induction n with
    | zero => intro y3_5 y4_5 H locs ls h9; exact absurd h9 (fun z => nomatch z)
    | succ n ih_5 =>
      intro y3_5 y4_5 H locs ls hb_5 hw hS hl
      obtain ⟨q_5, hF, hb_5⟩ := kh_lp_ok hb_5
      have hF : f_X2_reach_B5 ρ i0 x2_c5 y3_5 y4_5 = some q_5 := hF
      have wL61 : ∀ (x3_61 : Int32) (x4_61 : Int32) (H : Heap) (locs : List Loc) (ls : Array Slot), f_X2_reach_L61 ρ i0 x2_c5 x3_61 x4_61 = some q_5 → kh_w D ca A ad ρ H → va_S A s.heap H locs → kh_lv ls 6 [(0, .ref (ad 6 i0)), (2, .int x2_c5), (3, .int x3_61), (4, .int x4_61)] → W p l e (headSpec wsX2_reach ({ frames := 2, cells := 0, slots := 0, locals := 43 } : Room)).room s m ([.ref (ad 6 i0), .int x1, .int x2]).toArray below meth c H locs 0 0 (MQ below (kh_Qi D ca A ad (kh_pu (f_X2_reach ρ i0 x1 x2) ρ)) ([.ref (ad 6 i0), .int x1, .int x2]).toArray s 0 0 A) (F0 m 61 ls []) := by
        intro x3_61 x4_61 H locs ls hF hw hS hl
        unfold f_X2_reach_L61 at hF
        refine kh_iinc (v := x4_61 + (1 : Int32)) (lv' := [(4, .int (x4_61 + (1 : Int32))), (0, .ref (ad 6 i0)), (2, .int x2_c5), (3, .int x3_61)]) C.1 C.2.1 dX2_reach_61 hl (k := 3) rfl (by rfl) (by decide) rfl (fun ls hl => ?_)
        refine lv_goto (tgt := 5) C.1 C.2.1 dX2_reach_64 (by decide) ?_
        have e9 := Option.some.inj hF
        rcases hb_5 with ⟨a9, h8, h9⟩ | h8
        · have h7 := Sum.inl.inj (e9.trans h8)
          subst h7
          exact ih_5 _ _ _ _ _ h9 hw hS (kh_sub hl [1, 2, 3, 0] rfl)
        · exact absurd (e9.trans h8) (fun z => nomatch z)
      have wB17 : ∀ (x4_c17 : Int32) (b : Int32), f_X2_reach_A17 ρ i0 x2_c5 x4_c17 b = some q_5 → ∀ (n : Nat) (y3_17 : Int32) (y5_17 : Int32) (H : Heap) (locs : List Loc) (ls : Array Slot), kh_lp (fun a : Int32 × Int32 => f_X2_reach_B17 ρ i0 x2_c5 x4_c17 a.1 a.2) n (y3_17, y5_17) = some b → kh_w D ca A ad ρ H → va_S A s.heap H locs → kh_lv ls 6 [(0, .ref (ad 6 i0)), (2, .int x2_c5), (3, .int y3_17), (4, .int x4_c17), (5, .int y5_17)] → W p l e (headSpec wsX2_reach ({ frames := 2, cells := 0, slots := 0, locals := 43 } : Room)).room s m ([.ref (ad 6 i0), .int x1, .int x2]).toArray below meth c H locs 0 0 (MQ below (kh_Qi D ca A ad (kh_pu (f_X2_reach ρ i0 x1 x2) ρ)) ([.ref (ad 6 i0), .int x1, .int x2]).toArray s 0 0 A) (F0 m 17 ls []) := by
        intro x4_c17 b hA_17 n
        induction n with
        | zero => intro y3_17 y5_17 H locs ls h9; exact absurd h9 (fun z => nomatch z)
        | succ n ih_17 =>
          intro y3_17 y5_17 H locs ls hb_17 hw hS hl
          obtain ⟨q_17, hF, hb_17⟩ := kh_lp_ok hb_17
          have hF : f_X2_reach_B17 ρ i0 x2_c5 x4_c17 y3_17 y5_17 = some q_17 := hF
          have wL55 : ∀ (x3_55 : Int32) (x5_55 : Int32) (H : Heap) (locs : List Loc) (ls : Array Slot), f_X2_reach_L55 ρ i0 x2_c5 x4_c17 x3_55 x5_55 = some q_17 → kh_w D ca A ad ρ H → va_S A s.heap H locs → kh_lv ls 6 [(0, .ref (ad 6 i0)), (2, .int x2_c5), (3, .int x3_55), (4, .int x4_c17), (5, .int x5_55)] → W p l e (headSpec wsX2_reach ({ frames := 2, cells := 0, slots := 0, locals := 43 } : Room)).room s m ([.ref (ad 6 i0), .int x1, .int x2]).toArray below meth c H locs 0 0 (MQ below (kh_Qi D ca A ad (kh_pu (f_X2_reach ρ i0 x1 x2) ρ)) ([.ref (ad 6 i0), .int x1, .int x2]).toArray s 0 0 A) (F0 m 55 ls []) := by
            intro x3_55 x5_55 H locs ls hF hw hS hl
            unfold f_X2_reach_L55 at hF
            refine kh_iinc (v := x5_55 + (1 : Int32)) (lv' := [(5, .int (x5_55 + (1 : Int32))), (0, .ref (ad 6 i0)), (2, .int x2_c5), (3, .int x3_55), (4, .int x4_c17)]) C.1 C.2.1 dX2_reach_55 hl (k := 4) rfl (by rfl) (by decide) rfl (fun ls hl => ?_)
            refine lv_goto (tgt := 17) C.1 C.2.1 dX2_reach_58 (by decide) ?_
            have e9 := Option.some.inj hF
            rcases hb_17 with ⟨a9, h8, h9⟩ | h8
            · have h7 := Sum.inl.inj (e9.trans h8)
              subst h7
              exact ih_17 _ _ _ _ _ h9 hw hS (kh_sub hl [1, 2, 3, 4, 0] rfl)
            · exact absurd (e9.trans h8) (fun z => nomatch z)
          unfold f_X2_reach_B17 at hF
          refine lv_iload C.1 C.2.1 dX2_reach_17 (kh_at hl 4 rfl) ?_
          refine lv_aload_n C.1 C.2.1 dX2_reach_19 rfl (kh_at hl 0 rfl) ?_
          refine kh_get C hw 6 6 rfl v0 kh_kd6 (Cn := RX2) (T := TX2) (N := 13) rfl (Nat.le_of_ble_eq_true rfl) k_37 (kf_6_6 ad ρ i0) dX2_reach_20 ?_
          refine lv_icmp_ge (tgt := 61) C.1 C.2.1 dX2_reach_23 (by decide) (fun c_1 => ?_) (fun c_1 => ?_)
          · have hF := kh_ift hF c_1
            have e9 := Option.some.inj hF
            rcases hb_17 with ⟨a9, h8, h9⟩ | h8
            · exact absurd (e9.trans h8) (fun z => nomatch z)
            have h7 := Sum.inr.inj (e9.trans h8)
            have hF := (congrArg (f_X2_reach_A17 ρ i0 x2_c5 x4_c17) h7).trans hA_17
            exact wL61 y3_17 x4_c17 _ _ _ hF hw hS (kh_sub hl [0, 1, 2, 3] rfl)
          · have hF := kh_iff hF c_1
            refine lv_iload_n C.1 C.2.1 dX2_reach_26 rfl (kh_at hl 1 rfl) ?_
            refine lv_iload C.1 C.2.1 dX2_reach_27 (kh_at hl 4 rfl) ?_
            obtain ⟨r_2, h_2, hF⟩ := kh_bd_ok hF
            refine kh_calli (va_runSN (As := [.int x2_c5, .int y5_17]) (rest := []) ⟨C.1, C.2.1, C.2.2.1, C.2.2.2.1, C.2.2.2.2.1⟩ (c_X4_has l D ca A ad ρ x2_c5 y5_17 h_2) ⟨va_cnB 2 C.2.2.2.2.1 gX2_reach_X4_has_n40 rfl rfl rfl C.2.2.2.2.2.1.2.2.2.1 (C.2.2.2.2.1 (.initialized RX4) (by decide +kernel)) (by decide +kernel) ⟨Nat.le_of_ble_eq_true rfl, Nat.le_of_ble_eq_true rfl⟩, C.2.2.2.2.1 (.static yX4_has) (by decide +kernel), trivial⟩ (kh_preS C hw hS) rfl rfl hl.1.1 rfl (lv_room (kh_sum kh_an (Nat.le_of_ble_eq_true rfl))) dX2_reach_29 ⟨Nat.le_of_ble_eq_true rfl, Nat.le_of_ble_eq_true rfl⟩) hS (kh_mp h_2) (fun H locs hw hS => ?_)
            refine lv_if_eq (tgt := 55) C.1 C.2.1 dX2_reach_32 (by decide) (fun c_3 => ?_) (fun c_3 => ?_)
            · have hF := kh_ift hF c_3
              exact wL55 y3_17 y5_17 _ _ _ hF hw hS (kh_sub hl [0, 1, 2, 3, 4] rfl)
            · have hF := kh_iff hF c_3
              refine lv_aload_n C.1 C.2.1 dX2_reach_35 rfl (kh_at hl 0 rfl) ?_
              refine lv_iload C.1 C.2.1 dX2_reach_36 (kh_at hl 4 rfl) ?_
              refine lv_iload_n C.1 C.2.1 dX2_reach_38 rfl (kh_at hl 2 rfl) ?_
              obtain ⟨r_4, h_4, hF⟩ := kh_bd_ok hF
              refine kh_calli (va_runV (As := [.int y5_17, .int y3_17]) (rest := []) ⟨C.1, C.2.1, C.2.2.1, C.2.2.2.1, C.2.2.2.2.1⟩ (c_X2_isSolvable l D ca A ad ρ i0 y5_17 y3_17 h_4) (cwV 2 C.2.2.2.2.1 gX2_reach_X2_isSolvable rfl rfl rfl (by decide +kernel) ⟨Nat.le_of_ble_eq_true rfl, Nat.le_of_ble_eq_true rfl⟩) (kh_preV C hw hS 6 v0 kh_kd6 rfl) rfl rfl hl.1.1 rfl (lv_room (kh_sum kh_an (Nat.le_of_ble_eq_true rfl))) dX2_reach_39 ⟨Nat.le_of_ble_eq_true rfl, Nat.le_of_ble_eq_true rfl⟩) hS (kh_mp h_4) (fun H locs hw hS => ?_)
              refine lv_if_eq (tgt := 55) C.1 C.2.1 dX2_reach_42 (by decide) (fun c_5 => ?_) (fun c_5 => ?_)
              · have hF := kh_ift hF c_5
                exact wL55 y3_17 y5_17 _ _ _ hF hw hS (kh_sub hl [0, 1, 2, 3, 4] rfl)
              · have hF := kh_iff hF c_5
                refine lv_iload_n C.1 C.2.1 dX2_reach_45 rfl (kh_at hl 2 rfl) ?_
                refine lv_aload_n C.1 C.2.1 dX2_reach_46 rfl (kh_at hl 0 rfl) ?_
                refine kh_get C hw 6 3 rfl v0 kh_kd6 (Cn := RX2) (T := TX2) (N := 13) rfl (Nat.le_of_ble_eq_true rfl) k_15 (kf_6_3 ad ρ i0) dX2_reach_47 ?_
                refine lv_iload C.1 C.2.1 dX2_reach_50 (kh_at hl 4 rfl) ?_
                obtain ⟨g_6, hF⟩ := kh_gd_ok hF
                refine kh_iald C hw 8 rfl v0 kh_kd8 g_6 dX2_reach_52 ?_
                refine lv_ior C.1 C.2.1 dX2_reach_53 ?_
                refine kh_istore_n (lv' := [(3, .int (y3_17 ||| (ρ 8 0 i0 y5_17.toNatClampNeg))), (0, .ref (ad 6 i0)), (2, .int x2_c5), (4, .int x4_c17), (5, .int y5_17)]) C.1 C.2.1 dX2_reach_54 rfl hl (by decide) rfl (fun ls hl => ?_)
                exact wL55 (y3_17 ||| (ρ 8 0 i0 y5_17.toNatClampNeg)) y5_17 _ _ _ hF hw hS (kh_sub hl [1, 2, 0, 3, 4] rfl)
      unfold f_X2_reach_B5 at hF
      refine lv_iload C.1 C.2.1 dX2_reach_5 (kh_at hl 3 rfl) ?_
      refine lv_aload_n C.1 C.2.1 dX2_reach_7 rfl (kh_at hl 0 rfl) ?_
      refine kh_get C hw 6 6 rfl v0 kh_kd6 (Cn := RX2) (T := TX2) (N := 13) rfl (Nat.le_of_ble_eq_true rfl) k_37 (kf_6_6 ad ρ i0) dX2_reach_8 ?_
      refine lv_icmp_ge (tgt := 67) C.1 C.2.1 dX2_reach_11 (by decide) (fun c_7 => ?_) (fun c_7 => ?_)
      · have hF := kh_ift hF c_7
        have e9 := Option.some.inj hF
        rcases hb_5 with ⟨a9, h8, h9⟩ | h8
        · exact absurd (e9.trans h8) (fun z => nomatch z)
        have h7 := Sum.inr.inj (e9.trans h8)
        have hF := (congrArg (f_X2_reach_A5 ρ i0 x2_c5) h7).trans hA_5
        exact wL67 y3_5 _ _ _ hF hw hS (kh_sub hl [2] rfl)
      · have hF := kh_iff hF c_7
        refine lv_iconst (v := (0 : Int32)) C.1 C.2.1 dX2_reach_14 (by decide) ?_
        refine kh_istore (lv' := [(5, .int (0 : Int32)), (0, .ref (ad 6 i0)), (2, .int x2_c5), (3, .int y3_5), (4, .int y4_5)]) C.1 C.2.1 dX2_reach_15 hl (by decide) rfl (fun ls hl => ?_)
        obtain ⟨b_17, hb_17, hF⟩ := kh_bd_ok hF
        exact wB17 y4_5 b_17 hF _ y3_5 (0 : Int32) _ _ _ hb_17 hw hS (kh_sub hl [1, 2, 3, 4, 0] rfl)
  refine lv_iload_n C.1 C.2.1 dX2_reach_0 rfl (kh_at hl 1 rfl) ?_
  refine kh_istore_n (lv' := [(3, .int x1), (0, .ref (ad 6 i0)), (1, .int x1), (2, .int x2)]) C.1 C.2.1 dX2_reach_1 rfl hl (by decide) rfl (fun ls hl => ?_)
  refine lv_iconst (v := (0 : Int32)) C.1 C.2.1 dX2_reach_2 (by decide) ?_
  refine kh_istore (lv' := [(4, .int (0 : Int32)), (3, .int x1), (0, .ref (ad 6 i0)), (1, .int x1), (2, .int x2)]) C.1 C.2.1 dX2_reach_3 hl (by decide) rfl (fun ls hl => ?_)
  obtain ⟨b_5, hb_5, hF⟩ := kh_bd_ok hF
  exact wB5 x2 b_5 hF _ x1 (0 : Int32) _ _ _ hb_5 hw hS (kh_sub hl [2, 4, 1, 0] rfl)

def f_X2_lowestSolvable_L35 (ρ : kh_S) (i0 : Nat) : Option (Int32) := some (-1 : Int32)
def f_X2_lowestSolvable_L27 (ρ : kh_S) (i0 : Nat) (x3_27 : Int32) : Option (Int32) := some x3_27
def f_X2_lowestSolvable_L29 (ρ : kh_S) (i0 : Nat) (x1_c2 : Int32) (x2_c2 : Int32) (x3_29 : Int32) : Option ((Int32) ⊕ ((Int32) ⊕ (Unit))) := some (.inl (x3_29 + (1 : Int32)))
def f_X2_lowestSolvable_B2 (ρ : kh_S) (i0 : Nat) (x1_c2 : Int32) (x2_c2 : Int32) (y3_2 : Int32) : Option ((Int32) ⊕ ((Int32) ⊕ (Unit))) := if (ρ 6 6 i0 0) ≤ y3_2 then some (.inr (.inr ())) else kh_bd (f_X4_has ρ x1_c2 y3_2) (fun r_2 => if r_2 = 0 then f_X2_lowestSolvable_L29 ρ i0 x1_c2 x2_c2 y3_2 else kh_bd (f_X2_isSolvable ρ i0 y3_2 x2_c2) (fun r_4 => if r_4 = 0 then f_X2_lowestSolvable_L29 ρ i0 x1_c2 x2_c2 y3_2 else some (.inr (.inl y3_2))))
def f_X2_lowestSolvable_A2 (ρ : kh_S) (i0 : Nat) (x1_c2 : Int32) (x2_c2 : Int32) : ((Int32) ⊕ (Unit)) → Option (Int32) := (Sum.elim (fun u : Int32 => f_X2_lowestSolvable_L27 ρ i0 u) (fun u : Unit => f_X2_lowestSolvable_L35 ρ i0))
def f_X2_lowestSolvable (ρ : kh_S) (i0 : Nat) (x1 : Int32) (x2 : Int32) : Option (Int32) := kh_gd (decide (i0 < kh_n ρ 6)) (kh_bd (kh_lp (fun a : Int32 => f_X2_lowestSolvable_B2 ρ i0 x1 x2 a) 9999 (0 : Int32)) (f_X2_lowestSolvable_A2 ρ i0 x1 x2))
set_option maxHeartbeats 4000000 in
set_option maxRecDepth 100000 in
theorem c_X2_lowestSolvable (l : Launch) (D : va_G) (ca : Nat → ClassId) (A : Nat → Prop) (ad : Nat → Nat → Nat) (ρ : kh_S) (i0 : Nat) (x1 : Int32) (x2 : Int32) {q0 : Int32} (hF0 : f_X2_lowestSolvable ρ i0 x1 x2 = some q0) : Met l yX2_lowestSolvable wsX2_lowestSolvable ({ frames := 2, cells := 0, slots := 0, locals := 43 } : Room) (va_Pc [.ref (ad 6 i0), .int x1, .int x2] (kh_I D ca A ad ρ)) (kh_Qi D ca A ad (kh_pu (f_X2_lowestSolvable ρ i0 x1 x2) ρ)) 0 0 A := by
  refine Met.ofW (cc := cX2_lowestSolvable) (maxL := 4) (ret := (some .int)) (by decide) rfl ?_
  intro p e s m args below meth c s₁ B hml hv
  obtain ⟨rfl, hK, hw, hA⟩ := hv
  have C : kh_C p s m ([.ref (ad 6 i0), .int x1, .int x2]).toArray c cX2_lowestSolvable 4 RX2 wsX2_lowestSolvable D ca A := ⟨B.exec, B.bytes, hml, findClass_of_methodNamed B.named, atoms_spec (ws := wsX2_lowestSolvable) B.pre, hK, hA⟩
  have hr := B.returns
  have hlocks := B.notSynchronized
  have hS : va_S A s.heap s.heap [] := va_S.rf
  have hl := kh_entry ([.ref (ad 6 i0), .int x1, .int x2]) (n := 4) (kh_ac rfl (kh_ac rfl (kh_ac rfl kh_an))) (Nat.le_of_ble_eq_true rfl)
  rw [lg_entry_eq]
  generalize (lg_sl ([.ref (ad 6 i0), .int x1, .int x2]) ++ List.replicate (4 - (lg_sl ([.ref (ad 6 i0), .int x1, .int x2])).length) Slot.unset).toArray = ls at hl ⊢
  have hl : kh_lv ls 4 [(0, .ref (ad 6 i0)), (1, .int x1), (2, .int x2)] := hl
  have k_37 := C.2.2.2.2.1 (.fieldLink RX2 37 "KeylessHall$Room" "puzzleCount" "I") (by decide +kernel)
  have hF := hF0
  unfold f_X2_lowestSolvable at hF
  obtain ⟨v0, hF⟩ := kh_gd_ok hF
  have v0 := of_decide_eq_true v0
  have wL35 : ∀ (H : Heap) (locs : List Loc) (ls : Array Slot), f_X2_lowestSolvable_L35 ρ i0 = some q0 → kh_w D ca A ad ρ H → va_S A s.heap H locs → kh_lv ls 4 [] → W p l e (headSpec wsX2_lowestSolvable ({ frames := 2, cells := 0, slots := 0, locals := 43 } : Room)).room s m ([.ref (ad 6 i0), .int x1, .int x2]).toArray below meth c H locs 0 0 (MQ below (kh_Qi D ca A ad (kh_pu (f_X2_lowestSolvable ρ i0 x1 x2) ρ)) ([.ref (ad 6 i0), .int x1, .int x2]).toArray s 0 0 A) (F0 m 35 ls []) := by
    intro  H locs ls hF hw hS hl
    unfold f_X2_lowestSolvable_L35 at hF
    refine lv_iconst (v := (-1 : Int32)) C.1 C.2.1 dX2_lowestSolvable_35 (by decide) ?_
    exact W.iret (v := (-1 : Int32)) C.1 C.2.1 hr (fun t ht hW => ⟨⟨(-1 : Int32), ρ, rfl, kh_mp (hF0.trans hF.symm), kh_bk ht hw⟩, hS.F ht⟩) hS.2.2 dX2_lowestSolvable_36
  have wL27 : ∀ (x3_27 : Int32) (H : Heap) (locs : List Loc) (ls : Array Slot), f_X2_lowestSolvable_L27 ρ i0 x3_27 = some q0 → kh_w D ca A ad ρ H → va_S A s.heap H locs → kh_lv ls 4 [(3, .int x3_27)] → W p l e (headSpec wsX2_lowestSolvable ({ frames := 2, cells := 0, slots := 0, locals := 43 } : Room)).room s m ([.ref (ad 6 i0), .int x1, .int x2]).toArray below meth c H locs 0 0 (MQ below (kh_Qi D ca A ad (kh_pu (f_X2_lowestSolvable ρ i0 x1 x2) ρ)) ([.ref (ad 6 i0), .int x1, .int x2]).toArray s 0 0 A) (F0 m 27 ls []) := by
    intro x3_27 H locs ls hF hw hS hl
    unfold f_X2_lowestSolvable_L27 at hF
    refine lv_iload_n C.1 C.2.1 dX2_lowestSolvable_27 rfl (kh_at hl 0 rfl) ?_
    exact W.iret (v := x3_27) C.1 C.2.1 hr (fun t ht hW => ⟨⟨x3_27, ρ, rfl, kh_mp (hF0.trans hF.symm), kh_bk ht hw⟩, hS.F ht⟩) hS.2.2 dX2_lowestSolvable_28
  have wB2 : ∀ (x1_c2 : Int32) (x2_c2 : Int32) (b : (Int32) ⊕ (Unit)), f_X2_lowestSolvable_A2 ρ i0 x1_c2 x2_c2 b = some q0 → ∀ (n : Nat) (y3_2 : Int32) (H : Heap) (locs : List Loc) (ls : Array Slot), kh_lp (fun a : Int32 => f_X2_lowestSolvable_B2 ρ i0 x1_c2 x2_c2 a) n y3_2 = some b → kh_w D ca A ad ρ H → va_S A s.heap H locs → kh_lv ls 4 [(0, .ref (ad 6 i0)), (1, .int x1_c2), (2, .int x2_c2), (3, .int y3_2)] → W p l e (headSpec wsX2_lowestSolvable ({ frames := 2, cells := 0, slots := 0, locals := 43 } : Room)).room s m ([.ref (ad 6 i0), .int x1, .int x2]).toArray below meth c H locs 0 0 (MQ below (kh_Qi D ca A ad (kh_pu (f_X2_lowestSolvable ρ i0 x1 x2) ρ)) ([.ref (ad 6 i0), .int x1, .int x2]).toArray s 0 0 A) (F0 m 2 ls []) := by
    intro x1_c2 x2_c2 b hA_2 n
    induction n with
    | zero => intro y3_2 H locs ls h9; exact absurd h9 (fun z => nomatch z)
    | succ n ih_2 =>
      intro y3_2 H locs ls hb_2 hw hS hl
      obtain ⟨q_2, hF, hb_2⟩ := kh_lp_ok hb_2
      have hF : f_X2_lowestSolvable_B2 ρ i0 x1_c2 x2_c2 y3_2 = some q_2 := hF
      have wL29 : ∀ (x3_29 : Int32) (H : Heap) (locs : List Loc) (ls : Array Slot), f_X2_lowestSolvable_L29 ρ i0 x1_c2 x2_c2 x3_29 = some q_2 → kh_w D ca A ad ρ H → va_S A s.heap H locs → kh_lv ls 4 [(0, .ref (ad 6 i0)), (1, .int x1_c2), (2, .int x2_c2), (3, .int x3_29)] → W p l e (headSpec wsX2_lowestSolvable ({ frames := 2, cells := 0, slots := 0, locals := 43 } : Room)).room s m ([.ref (ad 6 i0), .int x1, .int x2]).toArray below meth c H locs 0 0 (MQ below (kh_Qi D ca A ad (kh_pu (f_X2_lowestSolvable ρ i0 x1 x2) ρ)) ([.ref (ad 6 i0), .int x1, .int x2]).toArray s 0 0 A) (F0 m 29 ls []) := by
        intro x3_29 H locs ls hF hw hS hl
        unfold f_X2_lowestSolvable_L29 at hF
        refine kh_iinc (v := x3_29 + (1 : Int32)) (lv' := [(3, .int (x3_29 + (1 : Int32))), (0, .ref (ad 6 i0)), (1, .int x1_c2), (2, .int x2_c2)]) C.1 C.2.1 dX2_lowestSolvable_29 hl (k := 3) rfl (by rfl) (by decide) rfl (fun ls hl => ?_)
        refine lv_goto (tgt := 2) C.1 C.2.1 dX2_lowestSolvable_32 (by decide) ?_
        have e9 := Option.some.inj hF
        rcases hb_2 with ⟨a9, h8, h9⟩ | h8
        · have h7 := Sum.inl.inj (e9.trans h8)
          subst h7
          exact ih_2 _ _ _ _ h9 hw hS (kh_sub hl [1, 2, 3, 0] rfl)
        · exact absurd (e9.trans h8) (fun z => nomatch z)
      unfold f_X2_lowestSolvable_B2 at hF
      refine lv_iload_n C.1 C.2.1 dX2_lowestSolvable_2 rfl (kh_at hl 3 rfl) ?_
      refine lv_aload_n C.1 C.2.1 dX2_lowestSolvable_3 rfl (kh_at hl 0 rfl) ?_
      refine kh_get C hw 6 6 rfl v0 kh_kd6 (Cn := RX2) (T := TX2) (N := 13) rfl (Nat.le_of_ble_eq_true rfl) k_37 (kf_6_6 ad ρ i0) dX2_lowestSolvable_4 ?_
      refine lv_icmp_ge (tgt := 35) C.1 C.2.1 dX2_lowestSolvable_7 (by decide) (fun c_1 => ?_) (fun c_1 => ?_)
      · have hF := kh_ift hF c_1
        have e9 := Option.some.inj hF
        rcases hb_2 with ⟨a9, h8, h9⟩ | h8
        · exact absurd (e9.trans h8) (fun z => nomatch z)
        have h7 := Sum.inr.inj (e9.trans h8)
        have hF := (congrArg (f_X2_lowestSolvable_A2 ρ i0 x1_c2 x2_c2) h7).trans hA_2
        exact wL35  _ _ _ hF hw hS (kh_sub hl [] rfl)
      · have hF := kh_iff hF c_1
        refine lv_iload_n C.1 C.2.1 dX2_lowestSolvable_10 rfl (kh_at hl 1 rfl) ?_
        refine lv_iload_n C.1 C.2.1 dX2_lowestSolvable_11 rfl (kh_at hl 3 rfl) ?_
        obtain ⟨r_2, h_2, hF⟩ := kh_bd_ok hF
        refine kh_calli (va_runSN (As := [.int x1_c2, .int y3_2]) (rest := []) ⟨C.1, C.2.1, C.2.2.1, C.2.2.2.1, C.2.2.2.2.1⟩ (c_X4_has l D ca A ad ρ x1_c2 y3_2 h_2) ⟨va_cnB 2 C.2.2.2.2.1 gX2_lowestSolvable_X4_has_n40 rfl rfl rfl C.2.2.2.2.2.1.2.2.2.1 (C.2.2.2.2.1 (.initialized RX4) (by decide +kernel)) (by decide +kernel) ⟨Nat.le_of_ble_eq_true rfl, Nat.le_of_ble_eq_true rfl⟩, C.2.2.2.2.1 (.static yX4_has) (by decide +kernel), trivial⟩ (kh_preS C hw hS) rfl rfl hl.1.1 rfl (lv_room (kh_sum kh_an (Nat.le_of_ble_eq_true rfl))) dX2_lowestSolvable_12 ⟨Nat.le_of_ble_eq_true rfl, Nat.le_of_ble_eq_true rfl⟩) hS (kh_mp h_2) (fun H locs hw hS => ?_)
        refine lv_if_eq (tgt := 29) C.1 C.2.1 dX2_lowestSolvable_15 (by decide) (fun c_3 => ?_) (fun c_3 => ?_)
        · have hF := kh_ift hF c_3
          exact wL29 y3_2 _ _ _ hF hw hS (kh_sub hl [0, 1, 2, 3] rfl)
        · have hF := kh_iff hF c_3
          refine lv_aload_n C.1 C.2.1 dX2_lowestSolvable_18 rfl (kh_at hl 0 rfl) ?_
          refine lv_iload_n C.1 C.2.1 dX2_lowestSolvable_19 rfl (kh_at hl 3 rfl) ?_
          refine lv_iload_n C.1 C.2.1 dX2_lowestSolvable_20 rfl (kh_at hl 2 rfl) ?_
          obtain ⟨r_4, h_4, hF⟩ := kh_bd_ok hF
          refine kh_calli (va_runV (As := [.int y3_2, .int x2_c2]) (rest := []) ⟨C.1, C.2.1, C.2.2.1, C.2.2.2.1, C.2.2.2.2.1⟩ (c_X2_isSolvable l D ca A ad ρ i0 y3_2 x2_c2 h_4) (cwV 2 C.2.2.2.2.1 gX2_lowestSolvable_X2_isSolvable rfl rfl rfl (by decide +kernel) ⟨Nat.le_of_ble_eq_true rfl, Nat.le_of_ble_eq_true rfl⟩) (kh_preV C hw hS 6 v0 kh_kd6 rfl) rfl rfl hl.1.1 rfl (lv_room (kh_sum kh_an (Nat.le_of_ble_eq_true rfl))) dX2_lowestSolvable_21 ⟨Nat.le_of_ble_eq_true rfl, Nat.le_of_ble_eq_true rfl⟩) hS (kh_mp h_4) (fun H locs hw hS => ?_)
          refine lv_if_eq (tgt := 29) C.1 C.2.1 dX2_lowestSolvable_24 (by decide) (fun c_5 => ?_) (fun c_5 => ?_)
          · have hF := kh_ift hF c_5
            exact wL29 y3_2 _ _ _ hF hw hS (kh_sub hl [0, 1, 2, 3] rfl)
          · have hF := kh_iff hF c_5
            have e9 := Option.some.inj hF
            rcases hb_2 with ⟨a9, h8, h9⟩ | h8
            · exact absurd (e9.trans h8) (fun z => nomatch z)
            have h7 := Sum.inr.inj (e9.trans h8)
            have hF := (congrArg (f_X2_lowestSolvable_A2 ρ i0 x1_c2 x2_c2) h7).trans hA_2
            exact wL27 y3_2 _ _ _ hF hw hS (kh_sub hl [3] rfl)
  refine lv_iconst (v := (0 : Int32)) C.1 C.2.1 dX2_lowestSolvable_0 (by decide) ?_
  refine kh_istore_n (lv' := [(3, .int (0 : Int32)), (0, .ref (ad 6 i0)), (1, .int x1), (2, .int x2)]) C.1 C.2.1 dX2_lowestSolvable_1 rfl hl (by decide) rfl (fun ls hl => ?_)
  obtain ⟨b_2, hb_2, hF⟩ := kh_bd_ok hF
  exact wB2 x1 x2 b_2 hF _ (0 : Int32) _ _ _ hb_2 hw hS (kh_sub hl [1, 2, 3, 0] rfl)

def f_X2_isNeededByOther_L59 (ρ : kh_S) (i0 : Nat) : Option (Int32) := some (0 : Int32)
def f_X2_isNeededByOther_L51 (ρ : kh_S) (i0 : Nat) : Option (Int32) := some (1 : Int32)
def f_X2_isNeededByOther_L53 (ρ : kh_S) (i0 : Nat) (x1_c16 : Int32) (x2_c16 : Int32) (x3_53 : Int32) : Option ((Int32) ⊕ ((Unit) ⊕ (Unit))) := some (.inl (x3_53 + (1 : Int32)))
def f_X2_isNeededByOther_B16 (ρ : kh_S) (i0 : Nat) (x1_c16 : Int32) (x2_c16 : Int32) (y3_16 : Int32) : Option ((Int32) ⊕ ((Unit) ⊕ (Unit))) := if (ρ 6 6 i0 0) ≤ y3_16 then some (.inr (.inr ())) else if y3_16 = x1_c16 then f_X2_isNeededByOther_L53 ρ i0 x1_c16 x2_c16 y3_16 else kh_bd (f_X4_has ρ (ρ 6 9 i0 0) y3_16) (fun r_3 => if r_3 = 0 then f_X2_isNeededByOther_L53 ρ i0 x1_c16 x2_c16 y3_16 else kh_gd (kh_in y3_16 8) (if ((ρ 7 0 i0 y3_16.toNatClampNeg) &&& x2_c16) = 0 then f_X2_isNeededByOther_L53 ρ i0 x1_c16 x2_c16 y3_16 else some (.inr (.inl ()))))
def f_X2_isNeededByOther_A16 (ρ : kh_S) (i0 : Nat) (x1_c16 : Int32) (x2_c16 : Int32) : ((Unit) ⊕ (Unit)) → Option (Int32) := (Sum.elim (fun u : Unit => f_X2_isNeededByOther_L51 ρ i0) (fun u : Unit => f_X2_isNeededByOther_L59 ρ i0))
def f_X2_isNeededByOther (ρ : kh_S) (i0 : Nat) (x1 : Int32) : Option (Int32) := kh_gd (decide (i0 < kh_n ρ 6)) (kh_gd (kh_in x1 8) (kh_bd (kh_lp (fun a : Int32 => f_X2_isNeededByOther_B16 ρ i0 x1 ((ρ 8 0 i0 x1.toNatClampNeg) &&& ((ρ 6 1 i0 0) ^^^ (-1 : Int32))) a) 9999 (0 : Int32)) (f_X2_isNeededByOther_A16 ρ i0 x1 ((ρ 8 0 i0 x1.toNatClampNeg) &&& ((ρ 6 1 i0 0) ^^^ (-1 : Int32))))))
set_option maxHeartbeats 4000000 in
set_option maxRecDepth 100000 in
theorem c_X2_isNeededByOther (l : Launch) (D : va_G) (ca : Nat → ClassId) (A : Nat → Prop) (ad : Nat → Nat → Nat) (ρ : kh_S) (i0 : Nat) (x1 : Int32) {q0 : Int32} (hF0 : f_X2_isNeededByOther ρ i0 x1 = some q0) : Met l yX2_isNeededByOther wsX2_isNeededByOther ({ frames := 1, cells := 0, slots := 0, locals := 21 } : Room) (va_Pc [.ref (ad 6 i0), .int x1] (kh_I D ca A ad ρ)) (kh_Qi D ca A ad (kh_pu (f_X2_isNeededByOther ρ i0 x1) ρ)) 0 0 A := by
  refine Met.ofW (cc := cX2_isNeededByOther) (maxL := 4) (ret := (some .boolean)) (by decide) rfl ?_
  intro p e s m args below meth c s₁ B hml hv
  obtain ⟨rfl, hK, hw, hA⟩ := hv
  have C : kh_C p s m ([.ref (ad 6 i0), .int x1]).toArray c cX2_isNeededByOther 4 RX2 wsX2_isNeededByOther D ca A := ⟨B.exec, B.bytes, hml, findClass_of_methodNamed B.named, atoms_spec (ws := wsX2_isNeededByOther) B.pre, hK, hA⟩
  have hr := B.returns
  have hlocks := B.notSynchronized
  have hS : va_S A s.heap s.heap [] := va_S.rf
  have hl := kh_entry ([.ref (ad 6 i0), .int x1]) (n := 4) (kh_ac rfl (kh_ac rfl kh_an)) (Nat.le_of_ble_eq_true rfl)
  rw [lg_entry_eq]
  generalize (lg_sl ([.ref (ad 6 i0), .int x1]) ++ List.replicate (4 - (lg_sl ([.ref (ad 6 i0), .int x1])).length) Slot.unset).toArray = ls at hl ⊢
  have hl : kh_lv ls 4 [(0, .ref (ad 6 i0)), (1, .int x1)] := hl
  have k_37 := C.2.2.2.2.1 (.fieldLink RX2 37 "KeylessHall$Room" "puzzleCount" "I") (by decide +kernel)
  have k_54 := C.2.2.2.2.1 (.fieldLink RX2 54 "KeylessHall$Room" "toReset" "I") (by decide +kernel)
  have k_9 := C.2.2.2.2.1 (.fieldLink RX2 9 "KeylessHall$Room" "needs" "[I") (by decide +kernel)
  have k_15 := C.2.2.2.2.1 (.fieldLink RX2 15 "KeylessHall$Room" "gives" "[I") (by decide +kernel)
  have k_34 := C.2.2.2.2.1 (.fieldLink RX2 34 "KeylessHall$Room" "things" "I") (by decide +kernel)
  have hF := hF0
  unfold f_X2_isNeededByOther at hF
  obtain ⟨v0, hF⟩ := kh_gd_ok hF
  have v0 := of_decide_eq_true v0
  have wL59 : ∀ (H : Heap) (locs : List Loc) (ls : Array Slot), f_X2_isNeededByOther_L59 ρ i0 = some q0 → kh_w D ca A ad ρ H → va_S A s.heap H locs → kh_lv ls 4 [] → W p l e (headSpec wsX2_isNeededByOther ({ frames := 1, cells := 0, slots := 0, locals := 21 } : Room)).room s m ([.ref (ad 6 i0), .int x1]).toArray below meth c H locs 0 0 (MQ below (kh_Qi D ca A ad (kh_pu (f_X2_isNeededByOther ρ i0 x1) ρ)) ([.ref (ad 6 i0), .int x1]).toArray s 0 0 A) (F0 m 59 ls []) := by
    intro  H locs ls hF hw hS hl
    unfold f_X2_isNeededByOther_L59 at hF
    refine lv_iconst (v := (0 : Int32)) C.1 C.2.1 dX2_isNeededByOther_59 (by decide) ?_
    exact W.zret (v := (0 : Int32)) (ty := .boolean) C.1 C.2.1 hr rfl (fun t ht hW => ⟨⟨(0 : Int32), ρ, rfl, kh_mp (hF0.trans hF.symm), kh_bk ht hw⟩, hS.F ht⟩) hS.2.2 dX2_isNeededByOther_60
  have wL51 : ∀ (H : Heap) (locs : List Loc) (ls : Array Slot), f_X2_isNeededByOther_L51 ρ i0 = some q0 → kh_w D ca A ad ρ H → va_S A s.heap H locs → kh_lv ls 4 [] → W p l e (headSpec wsX2_isNeededByOther ({ frames := 1, cells := 0, slots := 0, locals := 21 } : Room)).room s m ([.ref (ad 6 i0), .int x1]).toArray below meth c H locs 0 0 (MQ below (kh_Qi D ca A ad (kh_pu (f_X2_isNeededByOther ρ i0 x1) ρ)) ([.ref (ad 6 i0), .int x1]).toArray s 0 0 A) (F0 m 51 ls []) := by
    intro  H locs ls hF hw hS hl
    unfold f_X2_isNeededByOther_L51 at hF
    refine lv_iconst (v := (1 : Int32)) C.1 C.2.1 dX2_isNeededByOther_51 (by decide) ?_
    exact W.zret (v := (1 : Int32)) (ty := .boolean) C.1 C.2.1 hr rfl (fun t ht hW => ⟨⟨(1 : Int32), ρ, rfl, kh_mp (hF0.trans hF.symm), kh_bk ht hw⟩, hS.F ht⟩) hS.2.2 dX2_isNeededByOther_52
  have wB16 : ∀ (x1_c16 : Int32) (x2_c16 : Int32) (b : (Unit) ⊕ (Unit)), f_X2_isNeededByOther_A16 ρ i0 x1_c16 x2_c16 b = some q0 → ∀ (n : Nat) (y3_16 : Int32) (H : Heap) (locs : List Loc) (ls : Array Slot), kh_lp (fun a : Int32 => f_X2_isNeededByOther_B16 ρ i0 x1_c16 x2_c16 a) n y3_16 = some b → kh_w D ca A ad ρ H → va_S A s.heap H locs → kh_lv ls 4 [(0, .ref (ad 6 i0)), (1, .int x1_c16), (2, .int x2_c16), (3, .int y3_16)] → W p l e (headSpec wsX2_isNeededByOther ({ frames := 1, cells := 0, slots := 0, locals := 21 } : Room)).room s m ([.ref (ad 6 i0), .int x1]).toArray below meth c H locs 0 0 (MQ below (kh_Qi D ca A ad (kh_pu (f_X2_isNeededByOther ρ i0 x1) ρ)) ([.ref (ad 6 i0), .int x1]).toArray s 0 0 A) (F0 m 16 ls []) := by
    intro x1_c16 x2_c16 b hA_16 n
    induction n with
    | zero => intro y3_16 H locs ls h9; exact absurd h9 (fun z => nomatch z)
    | succ n ih_16 =>
      intro y3_16 H locs ls hb_16 hw hS hl
      obtain ⟨q_16, hF, hb_16⟩ := kh_lp_ok hb_16
      have hF : f_X2_isNeededByOther_B16 ρ i0 x1_c16 x2_c16 y3_16 = some q_16 := hF
      have wL53 : ∀ (x3_53 : Int32) (H : Heap) (locs : List Loc) (ls : Array Slot), f_X2_isNeededByOther_L53 ρ i0 x1_c16 x2_c16 x3_53 = some q_16 → kh_w D ca A ad ρ H → va_S A s.heap H locs → kh_lv ls 4 [(0, .ref (ad 6 i0)), (1, .int x1_c16), (2, .int x2_c16), (3, .int x3_53)] → W p l e (headSpec wsX2_isNeededByOther ({ frames := 1, cells := 0, slots := 0, locals := 21 } : Room)).room s m ([.ref (ad 6 i0), .int x1]).toArray below meth c H locs 0 0 (MQ below (kh_Qi D ca A ad (kh_pu (f_X2_isNeededByOther ρ i0 x1) ρ)) ([.ref (ad 6 i0), .int x1]).toArray s 0 0 A) (F0 m 53 ls []) := by
        intro x3_53 H locs ls hF hw hS hl
        unfold f_X2_isNeededByOther_L53 at hF
        refine kh_iinc (v := x3_53 + (1 : Int32)) (lv' := [(3, .int (x3_53 + (1 : Int32))), (0, .ref (ad 6 i0)), (1, .int x1_c16), (2, .int x2_c16)]) C.1 C.2.1 dX2_isNeededByOther_53 hl (k := 3) rfl (by rfl) (by decide) rfl (fun ls hl => ?_)
        refine lv_goto (tgt := 16) C.1 C.2.1 dX2_isNeededByOther_56 (by decide) ?_
        have e9 := Option.some.inj hF
        rcases hb_16 with ⟨a9, h8, h9⟩ | h8
        · have h7 := Sum.inl.inj (e9.trans h8)
          subst h7
          exact ih_16 _ _ _ _ h9 hw hS (kh_sub hl [1, 2, 3, 0] rfl)
        · exact absurd (e9.trans h8) (fun z => nomatch z)
      unfold f_X2_isNeededByOther_B16 at hF
      refine lv_iload_n C.1 C.2.1 dX2_isNeededByOther_16 rfl (kh_at hl 3 rfl) ?_
      refine lv_aload_n C.1 C.2.1 dX2_isNeededByOther_17 rfl (kh_at hl 0 rfl) ?_
      refine kh_get C hw 6 6 rfl v0 kh_kd6 (Cn := RX2) (T := TX2) (N := 13) rfl (Nat.le_of_ble_eq_true rfl) k_37 (kf_6_6 ad ρ i0) dX2_isNeededByOther_18 ?_
      refine lv_icmp_ge (tgt := 59) C.1 C.2.1 dX2_isNeededByOther_21 (by decide) (fun c_1 => ?_) (fun c_1 => ?_)
      · have hF := kh_ift hF c_1
        have e9 := Option.some.inj hF
        rcases hb_16 with ⟨a9, h8, h9⟩ | h8
        · exact absurd (e9.trans h8) (fun z => nomatch z)
        have h7 := Sum.inr.inj (e9.trans h8)
        have hF := (congrArg (f_X2_isNeededByOther_A16 ρ i0 x1_c16 x2_c16) h7).trans hA_16
        exact wL59  _ _ _ hF hw hS (kh_sub hl [] rfl)
      · have hF := kh_iff hF c_1
        refine lv_iload_n C.1 C.2.1 dX2_isNeededByOther_24 rfl (kh_at hl 3 rfl) ?_
        refine lv_iload_n C.1 C.2.1 dX2_isNeededByOther_25 rfl (kh_at hl 1 rfl) ?_
        refine lv_icmp_eq (tgt := 53) C.1 C.2.1 dX2_isNeededByOther_26 (by decide) (fun c_2 => ?_) (fun c_2 => ?_)
        · have hF := kh_ift hF c_2
          exact wL53 y3_16 _ _ _ hF hw hS (kh_sub hl [0, 1, 2, 3] rfl)
        · have hF := kh_iff hF c_2
          refine lv_aload_n C.1 C.2.1 dX2_isNeededByOther_29 rfl (kh_at hl 0 rfl) ?_
          refine kh_get C hw 6 9 rfl v0 kh_kd6 (Cn := RX2) (T := TX2) (N := 13) rfl (Nat.le_of_ble_eq_true rfl) k_54 (kf_6_9 ad ρ i0) dX2_isNeededByOther_30 ?_
          refine lv_iload_n C.1 C.2.1 dX2_isNeededByOther_33 rfl (kh_at hl 3 rfl) ?_
          obtain ⟨r_3, h_3, hF⟩ := kh_bd_ok hF
          refine kh_calli (va_runSN (As := [.int (ρ 6 9 i0 0), .int y3_16]) (rest := []) ⟨C.1, C.2.1, C.2.2.1, C.2.2.2.1, C.2.2.2.2.1⟩ (c_X4_has l D ca A ad ρ (ρ 6 9 i0 0) y3_16 h_3) ⟨va_cnB 2 C.2.2.2.2.1 gX2_isNeededByOther_X4_has_n40 rfl rfl rfl C.2.2.2.2.2.1.2.2.2.1 (C.2.2.2.2.1 (.initialized RX4) (by decide +kernel)) (by decide +kernel) ⟨Nat.le_of_ble_eq_true rfl, Nat.le_of_ble_eq_true rfl⟩, C.2.2.2.2.1 (.static yX4_has) (by decide +kernel), trivial⟩ (kh_preS C hw hS) rfl rfl hl.1.1 rfl (lv_room (kh_sum kh_an (Nat.le_of_ble_eq_true rfl))) dX2_isNeededByOther_34 ⟨Nat.le_of_ble_eq_true rfl, Nat.le_of_ble_eq_true rfl⟩) hS (kh_mp h_3) (fun H locs hw hS => ?_)
          refine lv_if_eq (tgt := 53) C.1 C.2.1 dX2_isNeededByOther_37 (by decide) (fun c_4 => ?_) (fun c_4 => ?_)
          · have hF := kh_ift hF c_4
            exact wL53 y3_16 _ _ _ hF hw hS (kh_sub hl [0, 1, 2, 3] rfl)
          · have hF := kh_iff hF c_4
            refine lv_aload_n C.1 C.2.1 dX2_isNeededByOther_40 rfl (kh_at hl 0 rfl) ?_
            refine kh_get C hw 6 2 rfl v0 kh_kd6 (Cn := RX2) (T := TX2) (N := 13) rfl (Nat.le_of_ble_eq_true rfl) k_9 (kf_6_2 ad ρ i0) dX2_isNeededByOther_41 ?_
            refine lv_iload_n C.1 C.2.1 dX2_isNeededByOther_44 rfl (kh_at hl 3 rfl) ?_
            obtain ⟨g_5, hF⟩ := kh_gd_ok hF
            refine kh_iald C hw 7 rfl v0 kh_kd7 g_5 dX2_isNeededByOther_45 ?_
            refine lv_iload_n C.1 C.2.1 dX2_isNeededByOther_46 rfl (kh_at hl 2 rfl) ?_
            refine lv_iand C.1 C.2.1 dX2_isNeededByOther_47 ?_
            refine lv_if_eq (tgt := 53) C.1 C.2.1 dX2_isNeededByOther_48 (by decide) (fun c_6 => ?_) (fun c_6 => ?_)
            · have hF := kh_ift hF c_6
              exact wL53 y3_16 _ _ _ hF hw hS (kh_sub hl [0, 1, 2, 3] rfl)
            · have hF := kh_iff hF c_6
              have e9 := Option.some.inj hF
              rcases hb_16 with ⟨a9, h8, h9⟩ | h8
              · exact absurd (e9.trans h8) (fun z => nomatch z)
              have h7 := Sum.inr.inj (e9.trans h8)
              have hF := (congrArg (f_X2_isNeededByOther_A16 ρ i0 x1_c16 x2_c16) h7).trans hA_16
              exact wL51  _ _ _ hF hw hS (kh_sub hl [] rfl)
  refine lv_aload_n C.1 C.2.1 dX2_isNeededByOther_0 rfl (kh_at hl 0 rfl) ?_
  refine kh_get C hw 6 3 rfl v0 kh_kd6 (Cn := RX2) (T := TX2) (N := 13) rfl (Nat.le_of_ble_eq_true rfl) k_15 (kf_6_3 ad ρ i0) dX2_isNeededByOther_1 ?_
  refine lv_iload_n C.1 C.2.1 dX2_isNeededByOther_4 rfl (kh_at hl 1 rfl) ?_
  obtain ⟨g_7, hF⟩ := kh_gd_ok hF
  refine kh_iald C hw 8 rfl v0 kh_kd8 g_7 dX2_isNeededByOther_5 ?_
  refine lv_aload_n C.1 C.2.1 dX2_isNeededByOther_6 rfl (kh_at hl 0 rfl) ?_
  refine kh_get C hw 6 1 rfl v0 kh_kd6 (Cn := RX2) (T := TX2) (N := 13) rfl (Nat.le_of_ble_eq_true rfl) k_34 (kf_6_1 ad ρ i0) dX2_isNeededByOther_7 ?_
  refine lv_iconst (v := (-1 : Int32)) C.1 C.2.1 dX2_isNeededByOther_10 (by decide) ?_
  refine lv_ixor C.1 C.2.1 dX2_isNeededByOther_11 ?_
  refine lv_iand C.1 C.2.1 dX2_isNeededByOther_12 ?_
  refine kh_istore_n (lv' := [(2, .int ((ρ 8 0 i0 x1.toNatClampNeg) &&& ((ρ 6 1 i0 0) ^^^ (-1 : Int32)))), (0, .ref (ad 6 i0)), (1, .int x1)]) C.1 C.2.1 dX2_isNeededByOther_13 rfl hl (by decide) rfl (fun ls hl => ?_)
  refine lv_iconst (v := (0 : Int32)) C.1 C.2.1 dX2_isNeededByOther_14 (by decide) ?_
  refine kh_istore_n (lv' := [(3, .int (0 : Int32)), (2, .int ((ρ 8 0 i0 x1.toNatClampNeg) &&& ((ρ 6 1 i0 0) ^^^ (-1 : Int32)))), (0, .ref (ad 6 i0)), (1, .int x1)]) C.1 C.2.1 dX2_isNeededByOther_15 rfl hl (by decide) rfl (fun ls hl => ?_)
  obtain ⟨b_16, hb_16, hF⟩ := kh_bd_ok hF
  exact wB16 x1 ((ρ 8 0 i0 x1.toNatClampNeg) &&& ((ρ 6 1 i0 0) ^^^ (-1 : Int32))) b_16 hF _ (0 : Int32) _ _ _ hb_16 hw hS (kh_sub hl [2, 3, 1, 0] rfl)

def f_X2_nextToReset_L53 (ρ : kh_S) (i0 : Nat) (t0_53 : Int32) : Option (Int32) := some t0_53
def f_X2_nextToReset_L43 (ρ : kh_S) (i0 : Nat) (x1_43 : Int32) (x2_43 : Int32) : Option (Int32) := if x2_43 = (-1 : Int32) then f_X2_nextToReset_L53 ρ i0 x1_43 else f_X2_nextToReset_L53 ρ i0 x2_43
def f_X2_nextToReset_L37 (ρ : kh_S) (i0 : Nat) (x1_37 : Int32) (x2_37 : Int32) (x3_37 : Int32) : Option ((Int32 × Int32 × Int32) ⊕ (Int32 × Int32)) := some (.inl (x1_37, x2_37, x3_37 + (1 : Int32)))
def f_X2_nextToReset_B6 (ρ : kh_S) (i0 : Nat) (y1_6 : Int32) (y2_6 : Int32) (y3_6 : Int32) : Option ((Int32 × Int32 × Int32) ⊕ (Int32 × Int32)) := if (ρ 6 6 i0 0) ≤ y3_6 then some (.inr (y1_6, y2_6)) else kh_bd (f_X4_has ρ (ρ 6 9 i0 0) y3_6) (fun r_3 => if r_3 = 0 then f_X2_nextToReset_L37 ρ i0 y1_6 y2_6 y3_6 else kh_bd (f_X2_isNeededByOther ρ i0 y3_6) (fun r_5 => if r_5 = 0 then f_X2_nextToReset_L37 ρ i0 y3_6 y3_6 y3_6 else f_X2_nextToReset_L37 ρ i0 y3_6 y2_6 y3_6))
def f_X2_nextToReset_A6 (ρ : kh_S) (i0 : Nat) : (Int32 × Int32) → Option (Int32) := (fun u : Int32 × Int32 => f_X2_nextToReset_L43 ρ i0 u.1 u.2)
def f_X2_nextToReset (ρ : kh_S) (i0 : Nat) : Option (Int32) := kh_gd (decide (i0 < kh_n ρ 6)) (kh_bd (kh_lp (fun a : Int32 × Int32 × Int32 => f_X2_nextToReset_B6 ρ i0 a.1 a.2.1 a.2.2) 9999 ((0 : Int32), (-1 : Int32), (0 : Int32))) (f_X2_nextToReset_A6 ρ i0))
set_option maxHeartbeats 4000000 in
set_option maxRecDepth 100000 in
theorem c_X2_nextToReset (l : Launch) (D : va_G) (ca : Nat → ClassId) (A : Nat → Prop) (ad : Nat → Nat → Nat) (ρ : kh_S) (i0 : Nat) {q0 : Int32} (hF0 : f_X2_nextToReset ρ i0 = some q0) : Met l yX2_nextToReset wsX2_nextToReset ({ frames := 2, cells := 0, slots := 0, locals := 44 } : Room) (va_Pc [.ref (ad 6 i0)] (kh_I D ca A ad ρ)) (kh_Qi D ca A ad (kh_pu (f_X2_nextToReset ρ i0) ρ)) 0 0 A := by
  refine Met.ofW (cc := cX2_nextToReset) (maxL := 4) (ret := (some .int)) (by decide) rfl ?_
  intro p e s m args below meth c s₁ B hml hv
  obtain ⟨rfl, hK, hw, hA⟩ := hv
  have C : kh_C p s m ([.ref (ad 6 i0)]).toArray c cX2_nextToReset 4 RX2 wsX2_nextToReset D ca A := ⟨B.exec, B.bytes, hml, findClass_of_methodNamed B.named, atoms_spec (ws := wsX2_nextToReset) B.pre, hK, hA⟩
  have hr := B.returns
  have hlocks := B.notSynchronized
  have hS : va_S A s.heap s.heap [] := va_S.rf
  have hl := kh_entry ([.ref (ad 6 i0)]) (n := 4) (kh_ac rfl kh_an) (Nat.le_of_ble_eq_true rfl)
  rw [lg_entry_eq]
  generalize (lg_sl ([.ref (ad 6 i0)]) ++ List.replicate (4 - (lg_sl ([.ref (ad 6 i0)])).length) Slot.unset).toArray = ls at hl ⊢
  have hl : kh_lv ls 4 [(0, .ref (ad 6 i0))] := hl
  have k_37 := C.2.2.2.2.1 (.fieldLink RX2 37 "KeylessHall$Room" "puzzleCount" "I") (by decide +kernel)
  have k_54 := C.2.2.2.2.1 (.fieldLink RX2 54 "KeylessHall$Room" "toReset" "I") (by decide +kernel)
  have hF := hF0
  unfold f_X2_nextToReset at hF
  obtain ⟨v0, hF⟩ := kh_gd_ok hF
  have v0 := of_decide_eq_true v0
  have wL53 : ∀ (t0_53 : Int32) (H : Heap) (locs : List Loc) (ls : Array Slot), f_X2_nextToReset_L53 ρ i0 t0_53 = some q0 → kh_w D ca A ad ρ H → va_S A s.heap H locs → kh_lv ls 4 [] → W p l e (headSpec wsX2_nextToReset ({ frames := 2, cells := 0, slots := 0, locals := 44 } : Room)).room s m ([.ref (ad 6 i0)]).toArray below meth c H locs 0 0 (MQ below (kh_Qi D ca A ad (kh_pu (f_X2_nextToReset ρ i0) ρ)) ([.ref (ad 6 i0)]).toArray s 0 0 A) (F0 m 53 ls [.int t0_53]) := by
    intro t0_53 H locs ls hF hw hS hl
    unfold f_X2_nextToReset_L53 at hF
    exact W.iret (v := t0_53) C.1 C.2.1 hr (fun t ht hW => ⟨⟨t0_53, ρ, rfl, kh_mp (hF0.trans hF.symm), kh_bk ht hw⟩, hS.F ht⟩) hS.2.2 dX2_nextToReset_53
  have wL43 : ∀ (x1_43 : Int32) (x2_43 : Int32) (H : Heap) (locs : List Loc) (ls : Array Slot), f_X2_nextToReset_L43 ρ i0 x1_43 x2_43 = some q0 → kh_w D ca A ad ρ H → va_S A s.heap H locs → kh_lv ls 4 [(1, .int x1_43), (2, .int x2_43)] → W p l e (headSpec wsX2_nextToReset ({ frames := 2, cells := 0, slots := 0, locals := 44 } : Room)).room s m ([.ref (ad 6 i0)]).toArray below meth c H locs 0 0 (MQ below (kh_Qi D ca A ad (kh_pu (f_X2_nextToReset ρ i0) ρ)) ([.ref (ad 6 i0)]).toArray s 0 0 A) (F0 m 43 ls []) := by
    intro x1_43 x2_43 H locs ls hF hw hS hl
    unfold f_X2_nextToReset_L43 at hF
    refine lv_iload_n C.1 C.2.1 dX2_nextToReset_43 rfl (kh_at hl 1 rfl) ?_
    refine lv_iconst (v := (-1 : Int32)) C.1 C.2.1 dX2_nextToReset_44 (by decide) ?_
    refine lv_icmp_ne (tgt := 52) C.1 C.2.1 dX2_nextToReset_45 (by decide) (fun c_1 => ?_) (fun c_1 => ?_)
    · have hF := kh_iff hF c_1
      refine lv_iload_n C.1 C.2.1 dX2_nextToReset_52 rfl (kh_at hl 1 rfl) ?_
      exact wL53 x2_43 _ _ _ hF hw hS (kh_sub hl [] rfl)
    · have hF := kh_ift hF c_1
      refine lv_iload_n C.1 C.2.1 dX2_nextToReset_48 rfl (kh_at hl 0 rfl) ?_
      refine lv_goto (tgt := 53) C.1 C.2.1 dX2_nextToReset_49 (by decide) ?_
      exact wL53 x1_43 _ _ _ hF hw hS (kh_sub hl [] rfl)
  have wB6 : ∀  (b : Int32 × Int32), f_X2_nextToReset_A6 ρ i0 b = some q0 → ∀ (n : Nat) (y1_6 : Int32) (y2_6 : Int32) (y3_6 : Int32) (H : Heap) (locs : List Loc) (ls : Array Slot), kh_lp (fun a : Int32 × Int32 × Int32 => f_X2_nextToReset_B6 ρ i0 a.1 a.2.1 a.2.2) n (y1_6, y2_6, y3_6) = some b → kh_w D ca A ad ρ H → va_S A s.heap H locs → kh_lv ls 4 [(0, .ref (ad 6 i0)), (1, .int y1_6), (2, .int y2_6), (3, .int y3_6)] → W p l e (headSpec wsX2_nextToReset ({ frames := 2, cells := 0, slots := 0, locals := 44 } : Room)).room s m ([.ref (ad 6 i0)]).toArray below meth c H locs 0 0 (MQ below (kh_Qi D ca A ad (kh_pu (f_X2_nextToReset ρ i0) ρ)) ([.ref (ad 6 i0)]).toArray s 0 0 A) (F0 m 6 ls []) := by
    intro  b hA_6 n
    induction n with
    | zero => intro y1_6 y2_6 y3_6 H locs ls h9; exact absurd h9 (fun z => nomatch z)
    | succ n ih_6 =>
      intro y1_6 y2_6 y3_6 H locs ls hb_6 hw hS hl
      obtain ⟨q_6, hF, hb_6⟩ := kh_lp_ok hb_6
      have hF : f_X2_nextToReset_B6 ρ i0 y1_6 y2_6 y3_6 = some q_6 := hF
      have wL37 : ∀ (x1_37 : Int32) (x2_37 : Int32) (x3_37 : Int32) (H : Heap) (locs : List Loc) (ls : Array Slot), f_X2_nextToReset_L37 ρ i0 x1_37 x2_37 x3_37 = some q_6 → kh_w D ca A ad ρ H → va_S A s.heap H locs → kh_lv ls 4 [(0, .ref (ad 6 i0)), (1, .int x1_37), (2, .int x2_37), (3, .int x3_37)] → W p l e (headSpec wsX2_nextToReset ({ frames := 2, cells := 0, slots := 0, locals := 44 } : Room)).room s m ([.ref (ad 6 i0)]).toArray below meth c H locs 0 0 (MQ below (kh_Qi D ca A ad (kh_pu (f_X2_nextToReset ρ i0) ρ)) ([.ref (ad 6 i0)]).toArray s 0 0 A) (F0 m 37 ls []) := by
        intro x1_37 x2_37 x3_37 H locs ls hF hw hS hl
        unfold f_X2_nextToReset_L37 at hF
        refine kh_iinc (v := x3_37 + (1 : Int32)) (lv' := [(3, .int (x3_37 + (1 : Int32))), (0, .ref (ad 6 i0)), (1, .int x1_37), (2, .int x2_37)]) C.1 C.2.1 dX2_nextToReset_37 hl (k := 3) rfl (by rfl) (by decide) rfl (fun ls hl => ?_)
        refine lv_goto (tgt := 6) C.1 C.2.1 dX2_nextToReset_40 (by decide) ?_
        have e9 := Option.some.inj hF
        rcases hb_6 with ⟨a9, h8, h9⟩ | h8
        · have h7 := Sum.inl.inj (e9.trans h8)
          subst h7
          exact ih_6 _ _ _ _ _ _ h9 hw hS (kh_sub hl [1, 2, 3, 0] rfl)
        · exact absurd (e9.trans h8) (fun z => nomatch z)
      unfold f_X2_nextToReset_B6 at hF
      refine lv_iload_n C.1 C.2.1 dX2_nextToReset_6 rfl (kh_at hl 3 rfl) ?_
      refine lv_aload_n C.1 C.2.1 dX2_nextToReset_7 rfl (kh_at hl 0 rfl) ?_
      refine kh_get C hw 6 6 rfl v0 kh_kd6 (Cn := RX2) (T := TX2) (N := 13) rfl (Nat.le_of_ble_eq_true rfl) k_37 (kf_6_6 ad ρ i0) dX2_nextToReset_8 ?_
      refine lv_icmp_ge (tgt := 43) C.1 C.2.1 dX2_nextToReset_11 (by decide) (fun c_2 => ?_) (fun c_2 => ?_)
      · have hF := kh_ift hF c_2
        have e9 := Option.some.inj hF
        rcases hb_6 with ⟨a9, h8, h9⟩ | h8
        · exact absurd (e9.trans h8) (fun z => nomatch z)
        have h7 := Sum.inr.inj (e9.trans h8)
        have hF := (congrArg (f_X2_nextToReset_A6 ρ i0) h7).trans hA_6
        exact wL43 y1_6 y2_6 _ _ _ hF hw hS (kh_sub hl [1, 2] rfl)
      · have hF := kh_iff hF c_2
        refine lv_aload_n C.1 C.2.1 dX2_nextToReset_14 rfl (kh_at hl 0 rfl) ?_
        refine kh_get C hw 6 9 rfl v0 kh_kd6 (Cn := RX2) (T := TX2) (N := 13) rfl (Nat.le_of_ble_eq_true rfl) k_54 (kf_6_9 ad ρ i0) dX2_nextToReset_15 ?_
        refine lv_iload_n C.1 C.2.1 dX2_nextToReset_18 rfl (kh_at hl 3 rfl) ?_
        obtain ⟨r_3, h_3, hF⟩ := kh_bd_ok hF
        refine kh_calli (va_runSN (As := [.int (ρ 6 9 i0 0), .int y3_6]) (rest := []) ⟨C.1, C.2.1, C.2.2.1, C.2.2.2.1, C.2.2.2.2.1⟩ (c_X4_has l D ca A ad ρ (ρ 6 9 i0 0) y3_6 h_3) ⟨va_cnB 2 C.2.2.2.2.1 gX2_nextToReset_X4_has_n40 rfl rfl rfl C.2.2.2.2.2.1.2.2.2.1 (C.2.2.2.2.1 (.initialized RX4) (by decide +kernel)) (by decide +kernel) ⟨Nat.le_of_ble_eq_true rfl, Nat.le_of_ble_eq_true rfl⟩, C.2.2.2.2.1 (.static yX4_has) (by decide +kernel), trivial⟩ (kh_preS C hw hS) rfl rfl hl.1.1 rfl (lv_room (kh_sum kh_an (Nat.le_of_ble_eq_true rfl))) dX2_nextToReset_19 ⟨Nat.le_of_ble_eq_true rfl, Nat.le_of_ble_eq_true rfl⟩) hS (kh_mp h_3) (fun H locs hw hS => ?_)
        refine lv_if_eq (tgt := 37) C.1 C.2.1 dX2_nextToReset_22 (by decide) (fun c_4 => ?_) (fun c_4 => ?_)
        · have hF := kh_ift hF c_4
          exact wL37 y1_6 y2_6 y3_6 _ _ _ hF hw hS (kh_sub hl [0, 1, 2, 3] rfl)
        · have hF := kh_iff hF c_4
          refine lv_iload_n C.1 C.2.1 dX2_nextToReset_25 rfl (kh_at hl 3 rfl) ?_
          refine kh_istore_n (lv' := [(1, .int y3_6), (0, .ref (ad 6 i0)), (2, .int y2_6), (3, .int y3_6)]) C.1 C.2.1 dX2_nextToReset_26 rfl hl (by decide) rfl (fun ls hl => ?_)
          refine lv_aload_n C.1 C.2.1 dX2_nextToReset_27 rfl (kh_at hl 1 rfl) ?_
          refine lv_iload_n C.1 C.2.1 dX2_nextToReset_28 rfl (kh_at hl 3 rfl) ?_
          obtain ⟨r_5, h_5, hF⟩ := kh_bd_ok hF
          refine kh_calli (va_runV (As := [.int y3_6]) (rest := []) ⟨C.1, C.2.1, C.2.2.1, C.2.2.2.1, C.2.2.2.2.1⟩ (c_X2_isNeededByOther l D ca A ad ρ i0 y3_6 h_5) (cwV 1 C.2.2.2.2.1 gX2_nextToReset_X2_isNeededByOther rfl rfl rfl (by decide +kernel) ⟨Nat.le_of_ble_eq_true rfl, Nat.le_of_ble_eq_true rfl⟩) (kh_preV C hw hS 6 v0 kh_kd6 rfl) rfl rfl hl.1.1 rfl (lv_room (kh_sum kh_an (Nat.le_of_ble_eq_true rfl))) dX2_nextToReset_29 ⟨Nat.le_of_ble_eq_true rfl, Nat.le_of_ble_eq_true rfl⟩) hS (kh_mp h_5) (fun H locs hw hS => ?_)
          refine lv_if_ne (tgt := 37) C.1 C.2.1 dX2_nextToReset_32 (by decide) (fun c_6 => ?_) (fun c_6 => ?_)
          · have hF := kh_iff hF c_6
            exact wL37 y3_6 y2_6 y3_6 _ _ _ hF hw hS (kh_sub hl [1, 0, 2, 3] rfl)
          · have hF := kh_ift hF c_6
            refine lv_iload_n C.1 C.2.1 dX2_nextToReset_35 rfl (kh_at hl 3 rfl) ?_
            refine kh_istore_n (lv' := [(2, .int y3_6), (1, .int y3_6), (0, .ref (ad 6 i0)), (3, .int y3_6)]) C.1 C.2.1 dX2_nextToReset_36 rfl hl (by decide) rfl (fun ls hl => ?_)
            exact wL37 y3_6 y3_6 y3_6 _ _ _ hF hw hS (kh_sub hl [2, 1, 0, 3] rfl)
  refine lv_iconst (v := (0 : Int32)) C.1 C.2.1 dX2_nextToReset_0 (by decide) ?_
  refine kh_istore_n (lv' := [(1, .int (0 : Int32)), (0, .ref (ad 6 i0))]) C.1 C.2.1 dX2_nextToReset_1 rfl hl (by decide) rfl (fun ls hl => ?_)
  refine lv_iconst (v := (-1 : Int32)) C.1 C.2.1 dX2_nextToReset_2 (by decide) ?_
  refine kh_istore_n (lv' := [(2, .int (-1 : Int32)), (1, .int (0 : Int32)), (0, .ref (ad 6 i0))]) C.1 C.2.1 dX2_nextToReset_3 rfl hl (by decide) rfl (fun ls hl => ?_)
  refine lv_iconst (v := (0 : Int32)) C.1 C.2.1 dX2_nextToReset_4 (by decide) ?_
  refine kh_istore_n (lv' := [(3, .int (0 : Int32)), (2, .int (-1 : Int32)), (1, .int (0 : Int32)), (0, .ref (ad 6 i0))]) C.1 C.2.1 dX2_nextToReset_5 rfl hl (by decide) rfl (fun ls hl => ?_)
  obtain ⟨b_6, hb_6, hF⟩ := kh_bd_ok hF
  exact wB6  b_6 hF _ (0 : Int32) (-1 : Int32) (0 : Int32) _ _ _ hb_6 hw hS (kh_sub hl [3, 2, 1, 0] rfl)

def f_X2_addPuzzle (ρ : kh_S) (i0 : Nat) (x1 : Int32) (x2 : Int32) (x3 : Int32) (x4 : Int32) : Option (Int32 × kh_S) := kh_gd (decide (i0 < kh_n ρ 6)) (kh_gd (kh_in (ρ 6 6 i0 0) 8) (some (ρ 6 6 i0 0, kh_up (kh_up (kh_up (kh_up (kh_up (kh_up ρ 7 0 i0 (ρ 6 6 i0 0).toNatClampNeg x1) 8 0 i0 (ρ 6 6 i0 0).toNatClampNeg x2) 9 0 i0 (ρ 6 6 i0 0).toNatClampNeg x3) 10 0 i0 (ρ 6 6 i0 0).toNatClampNeg x4) 6 7 i0 0 (((kh_up (kh_up (kh_up (kh_up ρ 7 0 i0 (ρ 6 6 i0 0).toNatClampNeg x1) 8 0 i0 (ρ 6 6 i0 0).toNatClampNeg x2) 9 0 i0 (ρ 6 6 i0 0).toNatClampNeg x3) 10 0 i0 (ρ 6 6 i0 0).toNatClampNeg x4) 6 7 i0 0) + x4)) 6 6 i0 0 (((kh_up (kh_up (kh_up (kh_up (kh_up ρ 7 0 i0 (ρ 6 6 i0 0).toNatClampNeg x1) 8 0 i0 (ρ 6 6 i0 0).toNatClampNeg x2) 9 0 i0 (ρ 6 6 i0 0).toNatClampNeg x3) 10 0 i0 (ρ 6 6 i0 0).toNatClampNeg x4) 6 7 i0 0 (((kh_up (kh_up (kh_up (kh_up ρ 7 0 i0 (ρ 6 6 i0 0).toNatClampNeg x1) 8 0 i0 (ρ 6 6 i0 0).toNatClampNeg x2) 9 0 i0 (ρ 6 6 i0 0).toNatClampNeg x3) 10 0 i0 (ρ 6 6 i0 0).toNatClampNeg x4) 6 7 i0 0) + x4)) 6 6 i0 0) + (1 : Int32)))))
set_option maxHeartbeats 4000000 in
set_option maxRecDepth 100000 in
theorem c_X2_addPuzzle (l : Launch) (D : va_G) (ca : Nat → ClassId) (A : Nat → Prop) (ad : Nat → Nat → Nat) (ρ : kh_S) (i0 : Nat) (x1 : Int32) (x2 : Int32) (x3 : Int32) (x4 : Int32) {q0 : Int32 × kh_S} (hF0 : f_X2_addPuzzle ρ i0 x1 x2 x3 x4 = some q0) : Met l yX2_addPuzzle wsX2_addPuzzle ({ frames := 0, cells := 0, slots := 0, locals := 0 } : Room) (va_Pc [.ref (ad 6 i0), .int x1, .int x2, .int x3, .int x4] (kh_I D ca A ad ρ)) (kh_Qi D ca A ad (f_X2_addPuzzle ρ i0 x1 x2 x3 x4)) 0 0 A := by
  refine Met.ofW (cc := cX2_addPuzzle) (maxL := 6) (ret := (some .int)) (by decide) rfl ?_
  intro p e s m args below meth c s₁ B hml hv
  obtain ⟨rfl, hK, hw, hA⟩ := hv
  have C : kh_C p s m ([.ref (ad 6 i0), .int x1, .int x2, .int x3, .int x4]).toArray c cX2_addPuzzle 6 RX2 wsX2_addPuzzle D ca A := ⟨B.exec, B.bytes, hml, findClass_of_methodNamed B.named, atoms_spec (ws := wsX2_addPuzzle) B.pre, hK, hA⟩
  have hr := B.returns
  have hlocks := B.notSynchronized
  have hS : va_S A s.heap s.heap [] := va_S.rf
  have hl := kh_entry ([.ref (ad 6 i0), .int x1, .int x2, .int x3, .int x4]) (n := 6) (kh_ac rfl (kh_ac rfl (kh_ac rfl (kh_ac rfl (kh_ac rfl kh_an))))) (Nat.le_of_ble_eq_true rfl)
  rw [lg_entry_eq]
  generalize (lg_sl ([.ref (ad 6 i0), .int x1, .int x2, .int x3, .int x4]) ++ List.replicate (6 - (lg_sl ([.ref (ad 6 i0), .int x1, .int x2, .int x3, .int x4])).length) Slot.unset).toArray = ls at hl ⊢
  have hl : kh_lv ls 6 [(0, .ref (ad 6 i0)), (1, .int x1), (2, .int x2), (3, .int x3), (4, .int x4)] := hl
  have k_37 := C.2.2.2.2.1 (.fieldLink RX2 37 "KeylessHall$Room" "puzzleCount" "I") (by decide +kernel)
  have k_9 := C.2.2.2.2.1 (.fieldLink RX2 9 "KeylessHall$Room" "needs" "[I") (by decide +kernel)
  have k_15 := C.2.2.2.2.1 (.fieldLink RX2 15 "KeylessHall$Room" "gives" "[I") (by decide +kernel)
  have k_18 := C.2.2.2.2.1 (.fieldLink RX2 18 "KeylessHall$Room" "props" "[I") (by decide +kernel)
  have k_21 := C.2.2.2.2.1 (.fieldLink RX2 21 "KeylessHall$Room" "minutes" "[I") (by decide +kernel)
  have k_24 := C.2.2.2.2.1 (.fieldLink RX2 24 "KeylessHall$Room" "gap" "I") (by decide +kernel)
  have hF := hF0
  unfold f_X2_addPuzzle at hF
  obtain ⟨v0, hF⟩ := kh_gd_ok hF
  have v0 := of_decide_eq_true v0
  refine lv_aload_n C.1 C.2.1 dX2_addPuzzle_0 rfl (kh_at hl 0 rfl) ?_
  refine kh_get C hw 6 6 rfl v0 kh_kd6 (Cn := RX2) (T := TX2) (N := 13) rfl (Nat.le_of_ble_eq_true rfl) k_37 (kf_6_6 ad ρ i0) dX2_addPuzzle_1 ?_
  refine kh_istore (lv' := [(5, .int (ρ 6 6 i0 0)), (0, .ref (ad 6 i0)), (1, .int x1), (2, .int x2), (3, .int x3), (4, .int x4)]) C.1 C.2.1 dX2_addPuzzle_4 hl (by decide) rfl (fun ls hl => ?_)
  refine lv_aload_n C.1 C.2.1 dX2_addPuzzle_6 rfl (kh_at hl 1 rfl) ?_
  refine kh_get C hw 6 2 rfl v0 kh_kd6 (Cn := RX2) (T := TX2) (N := 13) rfl (Nat.le_of_ble_eq_true rfl) k_9 (kf_6_2 ad ρ i0) dX2_addPuzzle_7 ?_
  refine lv_iload C.1 C.2.1 dX2_addPuzzle_10 (kh_at hl 0 rfl) ?_
  refine lv_iload_n C.1 C.2.1 dX2_addPuzzle_12 rfl (kh_at hl 2 rfl) ?_
  obtain ⟨g_1, hF⟩ := kh_gd_ok hF
  refine kh_iast C hw hS 7 rfl v0 (by decide) kh_kd7 g_1 dX2_addPuzzle_13 (fun H locs hw hS => ?_)
  refine lv_aload_n C.1 C.2.1 dX2_addPuzzle_14 rfl (kh_at hl 1 rfl) ?_
  refine kh_get C hw 6 3 rfl (kh_lu v0) kh_kd6 (Cn := RX2) (T := TX2) (N := 13) rfl (Nat.le_of_ble_eq_true rfl) k_15 (kf_6_3 ad (kh_up ρ 7 0 i0 (ρ 6 6 i0 0).toNatClampNeg x1) i0) dX2_addPuzzle_15 ?_
  refine lv_iload C.1 C.2.1 dX2_addPuzzle_18 (kh_at hl 0 rfl) ?_
  refine lv_iload_n C.1 C.2.1 dX2_addPuzzle_20 rfl (kh_at hl 3 rfl) ?_
  refine kh_iast C hw hS 8 rfl (kh_lu v0) (by decide) kh_kd8 g_1 dX2_addPuzzle_21 (fun H locs hw hS => ?_)
  refine lv_aload_n C.1 C.2.1 dX2_addPuzzle_22 rfl (kh_at hl 1 rfl) ?_
  refine kh_get C hw 6 4 rfl (kh_lu (kh_lu v0)) kh_kd6 (Cn := RX2) (T := TX2) (N := 13) rfl (Nat.le_of_ble_eq_true rfl) k_18 (kf_6_4 ad (kh_up (kh_up ρ 7 0 i0 (ρ 6 6 i0 0).toNatClampNeg x1) 8 0 i0 (ρ 6 6 i0 0).toNatClampNeg x2) i0) dX2_addPuzzle_23 ?_
  refine lv_iload C.1 C.2.1 dX2_addPuzzle_26 (kh_at hl 0 rfl) ?_
  refine lv_iload_n C.1 C.2.1 dX2_addPuzzle_28 rfl (kh_at hl 4 rfl) ?_
  refine kh_iast C hw hS 9 rfl (kh_lu (kh_lu v0)) (by decide) kh_kd9 g_1 dX2_addPuzzle_29 (fun H locs hw hS => ?_)
  refine lv_aload_n C.1 C.2.1 dX2_addPuzzle_30 rfl (kh_at hl 1 rfl) ?_
  refine kh_get C hw 6 5 rfl (kh_lu (kh_lu (kh_lu v0))) kh_kd6 (Cn := RX2) (T := TX2) (N := 13) rfl (Nat.le_of_ble_eq_true rfl) k_21 (kf_6_5 ad (kh_up (kh_up (kh_up ρ 7 0 i0 (ρ 6 6 i0 0).toNatClampNeg x1) 8 0 i0 (ρ 6 6 i0 0).toNatClampNeg x2) 9 0 i0 (ρ 6 6 i0 0).toNatClampNeg x3) i0) dX2_addPuzzle_31 ?_
  refine lv_iload C.1 C.2.1 dX2_addPuzzle_34 (kh_at hl 0 rfl) ?_
  refine lv_iload C.1 C.2.1 dX2_addPuzzle_36 (kh_at hl 5 rfl) ?_
  refine kh_iast C hw hS 10 rfl (kh_lu (kh_lu (kh_lu v0))) (by decide) kh_kd10 g_1 dX2_addPuzzle_38 (fun H locs hw hS => ?_)
  refine lv_aload_n C.1 C.2.1 dX2_addPuzzle_39 rfl (kh_at hl 1 rfl) ?_
  refine lv_dup C.1 C.2.1 dX2_addPuzzle_40 rfl ?_
  refine kh_get C hw 6 7 rfl (kh_lu (kh_lu (kh_lu (kh_lu v0)))) kh_kd6 (Cn := RX2) (T := TX2) (N := 13) rfl (Nat.le_of_ble_eq_true rfl) k_24 (kf_6_7 ad (kh_up (kh_up (kh_up (kh_up ρ 7 0 i0 (ρ 6 6 i0 0).toNatClampNeg x1) 8 0 i0 (ρ 6 6 i0 0).toNatClampNeg x2) 9 0 i0 (ρ 6 6 i0 0).toNatClampNeg x3) 10 0 i0 (ρ 6 6 i0 0).toNatClampNeg x4) i0) dX2_addPuzzle_41 ?_
  refine lv_iload C.1 C.2.1 dX2_addPuzzle_44 (kh_at hl 5 rfl) ?_
  refine lv_iadd C.1 C.2.1 dX2_addPuzzle_46 ?_
  refine kh_putI C hw hS 6 7 rfl (kh_lu (kh_lu (kh_lu (kh_lu v0)))) kh_kd6 (by decide) (Cn := RX2) (T := TX2) (N := 13) rfl (Nat.le_of_ble_eq_true rfl) (kq_6_7) k_24 rfl (by decide +kernel) dX2_addPuzzle_47 (fun H locs hw hS => ?_)
  refine lv_aload_n C.1 C.2.1 dX2_addPuzzle_50 rfl (kh_at hl 1 rfl) ?_
  refine lv_dup C.1 C.2.1 dX2_addPuzzle_51 rfl ?_
  refine kh_get C hw 6 6 rfl (kh_lu (kh_lu (kh_lu (kh_lu (kh_lu v0))))) kh_kd6 (Cn := RX2) (T := TX2) (N := 13) rfl (Nat.le_of_ble_eq_true rfl) k_37 (kf_6_6 ad (kh_up (kh_up (kh_up (kh_up (kh_up ρ 7 0 i0 (ρ 6 6 i0 0).toNatClampNeg x1) 8 0 i0 (ρ 6 6 i0 0).toNatClampNeg x2) 9 0 i0 (ρ 6 6 i0 0).toNatClampNeg x3) 10 0 i0 (ρ 6 6 i0 0).toNatClampNeg x4) 6 7 i0 0 (((kh_up (kh_up (kh_up (kh_up ρ 7 0 i0 (ρ 6 6 i0 0).toNatClampNeg x1) 8 0 i0 (ρ 6 6 i0 0).toNatClampNeg x2) 9 0 i0 (ρ 6 6 i0 0).toNatClampNeg x3) 10 0 i0 (ρ 6 6 i0 0).toNatClampNeg x4) 6 7 i0 0) + x4)) i0) dX2_addPuzzle_52 ?_
  refine lv_iconst (v := (1 : Int32)) C.1 C.2.1 dX2_addPuzzle_55 (by decide) ?_
  refine lv_iadd C.1 C.2.1 dX2_addPuzzle_56 ?_
  refine kh_putI C hw hS 6 6 rfl (kh_lu (kh_lu (kh_lu (kh_lu (kh_lu v0))))) kh_kd6 (by decide) (Cn := RX2) (T := TX2) (N := 13) rfl (Nat.le_of_ble_eq_true rfl) (kq_6_6) k_37 rfl (by decide +kernel) dX2_addPuzzle_57 (fun H locs hw hS => ?_)
  refine lv_iload C.1 C.2.1 dX2_addPuzzle_60 (kh_at hl 0 rfl) ?_
  exact W.iret (v := ρ 6 6 i0 0) C.1 C.2.1 hr (fun t ht hW => ⟨⟨ρ 6 6 i0 0, kh_up (kh_up (kh_up (kh_up (kh_up (kh_up ρ 7 0 i0 (ρ 6 6 i0 0).toNatClampNeg x1) 8 0 i0 (ρ 6 6 i0 0).toNatClampNeg x2) 9 0 i0 (ρ 6 6 i0 0).toNatClampNeg x3) 10 0 i0 (ρ 6 6 i0 0).toNatClampNeg x4) 6 7 i0 0 (((kh_up (kh_up (kh_up (kh_up ρ 7 0 i0 (ρ 6 6 i0 0).toNatClampNeg x1) 8 0 i0 (ρ 6 6 i0 0).toNatClampNeg x2) 9 0 i0 (ρ 6 6 i0 0).toNatClampNeg x3) 10 0 i0 (ρ 6 6 i0 0).toNatClampNeg x4) 6 7 i0 0) + x4)) 6 6 i0 0 (((kh_up (kh_up (kh_up (kh_up (kh_up ρ 7 0 i0 (ρ 6 6 i0 0).toNatClampNeg x1) 8 0 i0 (ρ 6 6 i0 0).toNatClampNeg x2) 9 0 i0 (ρ 6 6 i0 0).toNatClampNeg x3) 10 0 i0 (ρ 6 6 i0 0).toNatClampNeg x4) 6 7 i0 0 (((kh_up (kh_up (kh_up (kh_up ρ 7 0 i0 (ρ 6 6 i0 0).toNatClampNeg x1) 8 0 i0 (ρ 6 6 i0 0).toNatClampNeg x2) 9 0 i0 (ρ 6 6 i0 0).toNatClampNeg x3) 10 0 i0 (ρ 6 6 i0 0).toNatClampNeg x4) 6 7 i0 0) + x4)) 6 6 i0 0) + (1 : Int32)), rfl, hF0.trans hF.symm, kh_bk ht hw⟩, hS.F ht⟩) hS.2.2 dX2_addPuzzle_62

def f_X1_minutesLeft (ρ : kh_S) (i0 : Nat) (x1 : Int32) : Option (Int32) := kh_gd (decide (i0 < kh_n ρ 11)) (some (((60 : Int32) - (ρ 11 5 i0 0)) - (x1 - (ρ 11 2 i0 0))))
set_option maxHeartbeats 4000000 in
set_option maxRecDepth 100000 in
theorem c_X1_minutesLeft (l : Launch) (D : va_G) (ca : Nat → ClassId) (A : Nat → Prop) (ad : Nat → Nat → Nat) (ρ : kh_S) (i0 : Nat) (x1 : Int32) {q0 : Int32} (hF0 : f_X1_minutesLeft ρ i0 x1 = some q0) : Met l yX1_minutesLeft wsX1_minutesLeft ({ frames := 0, cells := 0, slots := 0, locals := 0 } : Room) (va_Pc [.ref (ad 11 i0), .int x1] (kh_I D ca A ad ρ)) (kh_Qi D ca A ad (kh_pu (f_X1_minutesLeft ρ i0 x1) ρ)) 0 0 A := by
  refine Met.ofW (cc := cX1_minutesLeft) (maxL := 2) (ret := (some .int)) (by decide) rfl ?_
  intro p e s m args below meth c s₁ B hml hv
  obtain ⟨rfl, hK, hw, hA⟩ := hv
  have C : kh_C p s m ([.ref (ad 11 i0), .int x1]).toArray c cX1_minutesLeft 2 RX1 wsX1_minutesLeft D ca A := ⟨B.exec, B.bytes, hml, findClass_of_methodNamed B.named, atoms_spec (ws := wsX1_minutesLeft) B.pre, hK, hA⟩
  have hr := B.returns
  have hlocks := B.notSynchronized
  have hS : va_S A s.heap s.heap [] := va_S.rf
  have hl := kh_entry ([.ref (ad 11 i0), .int x1]) (n := 2) (kh_ac rfl (kh_ac rfl kh_an)) (Nat.le_of_ble_eq_true rfl)
  rw [lg_entry_eq]
  generalize (lg_sl ([.ref (ad 11 i0), .int x1]) ++ List.replicate (2 - (lg_sl ([.ref (ad 11 i0), .int x1])).length) Slot.unset).toArray = ls at hl ⊢
  have hl : kh_lv ls 2 [(0, .ref (ad 11 i0)), (1, .int x1)] := hl
  have k_35 := C.2.2.2.2.1 (.fieldLink RX1 35 "KeylessHall$Group" "hintCost" "I") (by decide +kernel)
  have k_26 := C.2.2.2.2.1 (.fieldLink RX1 26 "KeylessHall$Group" "arrival" "I") (by decide +kernel)
  have hF := hF0
  unfold f_X1_minutesLeft at hF
  obtain ⟨v0, hF⟩ := kh_gd_ok hF
  have v0 := of_decide_eq_true v0
  refine lv_bipush (v := (60 : Int32)) C.1 C.2.1 dX1_minutesLeft_0 (by decide) ?_
  refine lv_aload_n C.1 C.2.1 dX1_minutesLeft_2 rfl (kh_at hl 0 rfl) ?_
  refine kh_get C hw 11 5 rfl v0 kh_kd11 (Cn := RX1) (T := TX1) (N := 9) rfl (Nat.le_of_ble_eq_true rfl) k_35 (kf_11_5 ad ρ i0) dX1_minutesLeft_3 ?_
  refine lv_isub C.1 C.2.1 dX1_minutesLeft_6 ?_
  refine lv_iload_n C.1 C.2.1 dX1_minutesLeft_7 rfl (kh_at hl 1 rfl) ?_
  refine lv_aload_n C.1 C.2.1 dX1_minutesLeft_8 rfl (kh_at hl 0 rfl) ?_
  refine kh_get C hw 11 2 rfl v0 kh_kd11 (Cn := RX1) (T := TX1) (N := 9) rfl (Nat.le_of_ble_eq_true rfl) k_26 (kf_11_2 ad ρ i0) dX1_minutesLeft_9 ?_
  refine lv_isub C.1 C.2.1 dX1_minutesLeft_12 ?_
  refine lv_isub C.1 C.2.1 dX1_minutesLeft_13 ?_
  exact W.iret (v := ((60 : Int32) - (ρ 11 5 i0 0)) - (x1 - (ρ 11 2 i0 0))) C.1 C.2.1 hr (fun t ht hW => ⟨⟨((60 : Int32) - (ρ 11 5 i0 0)) - (x1 - (ρ 11 2 i0 0)), ρ, rfl, kh_mp (hF0.trans hF.symm), kh_bk ht hw⟩, hS.F ht⟩) hS.2.2 dX1_minutesLeft_14

def f_X1_takeHint (ρ : kh_S) (i0 : Nat) (x1 : Int32) : Option (kh_S) := kh_gd (decide (i0 < kh_n ρ 11)) (kh_gd (kh_in x1 8) (some (kh_up (kh_up (kh_up ρ 11 5 i0 0 ((ρ 11 5 i0 0) + ((2 : Int32) + ((3 : Int32) * (ρ 12 0 i0 x1.toNatClampNeg))))) 12 0 i0 x1.toNatClampNeg (((kh_up ρ 11 5 i0 0 ((ρ 11 5 i0 0) + ((2 : Int32) + ((3 : Int32) * (ρ 12 0 i0 x1.toNatClampNeg))))) 12 0 i0 x1.toNatClampNeg) + (1 : Int32))) 11 4 i0 0 (((kh_up (kh_up ρ 11 5 i0 0 ((ρ 11 5 i0 0) + ((2 : Int32) + ((3 : Int32) * (ρ 12 0 i0 x1.toNatClampNeg))))) 12 0 i0 x1.toNatClampNeg (((kh_up ρ 11 5 i0 0 ((ρ 11 5 i0 0) + ((2 : Int32) + ((3 : Int32) * (ρ 12 0 i0 x1.toNatClampNeg))))) 12 0 i0 x1.toNatClampNeg) + (1 : Int32))) 11 4 i0 0) + (1 : Int32)))))
set_option maxHeartbeats 4000000 in
set_option maxRecDepth 100000 in
theorem c_X1_takeHint (l : Launch) (D : va_G) (ca : Nat → ClassId) (A : Nat → Prop) (ad : Nat → Nat → Nat) (ρ : kh_S) (i0 : Nat) (x1 : Int32) {q0 : kh_S} (hF0 : f_X1_takeHint ρ i0 x1 = some q0) : Met l yX1_takeHint wsX1_takeHint ({ frames := 0, cells := 0, slots := 0, locals := 0 } : Room) (va_Pc [.ref (ad 11 i0), .int x1] (kh_I D ca A ad ρ)) (kh_Qv D ca A ad (f_X1_takeHint ρ i0 x1)) 0 0 A := by
  refine Met.ofW (cc := cX1_takeHint) (maxL := 2) (ret := none) (by decide) rfl ?_
  intro p e s m args below meth c s₁ B hml hv
  obtain ⟨rfl, hK, hw, hA⟩ := hv
  have C : kh_C p s m ([.ref (ad 11 i0), .int x1]).toArray c cX1_takeHint 2 RX1 wsX1_takeHint D ca A := ⟨B.exec, B.bytes, hml, findClass_of_methodNamed B.named, atoms_spec (ws := wsX1_takeHint) B.pre, hK, hA⟩
  have hr := B.returns
  have hlocks := B.notSynchronized
  have hS : va_S A s.heap s.heap [] := va_S.rf
  have hl := kh_entry ([.ref (ad 11 i0), .int x1]) (n := 2) (kh_ac rfl (kh_ac rfl kh_an)) (Nat.le_of_ble_eq_true rfl)
  rw [lg_entry_eq]
  generalize (lg_sl ([.ref (ad 11 i0), .int x1]) ++ List.replicate (2 - (lg_sl ([.ref (ad 11 i0), .int x1])).length) Slot.unset).toArray = ls at hl ⊢
  have hl : kh_lv ls 2 [(0, .ref (ad 11 i0)), (1, .int x1)] := hl
  have k_35 := C.2.2.2.2.1 (.fieldLink RX1 35 "KeylessHall$Group" "hintCost" "I") (by decide +kernel)
  have k_9 := C.2.2.2.2.1 (.fieldLink RX1 9 "KeylessHall$Group" "hintsFor" "[I") (by decide +kernel)
  have k_38 := C.2.2.2.2.1 (.fieldLink RX1 38 "KeylessHall$Group" "hintCount" "I") (by decide +kernel)
  have hF := hF0
  unfold f_X1_takeHint at hF
  obtain ⟨v0, hF⟩ := kh_gd_ok hF
  have v0 := of_decide_eq_true v0
  refine lv_aload_n C.1 C.2.1 dX1_takeHint_0 rfl (kh_at hl 0 rfl) ?_
  refine lv_dup C.1 C.2.1 dX1_takeHint_1 rfl ?_
  refine kh_get C hw 11 5 rfl v0 kh_kd11 (Cn := RX1) (T := TX1) (N := 9) rfl (Nat.le_of_ble_eq_true rfl) k_35 (kf_11_5 ad ρ i0) dX1_takeHint_2 ?_
  refine lv_iconst (v := (2 : Int32)) C.1 C.2.1 dX1_takeHint_5 (by decide) ?_
  refine lv_iconst (v := (3 : Int32)) C.1 C.2.1 dX1_takeHint_6 (by decide) ?_
  refine lv_aload_n C.1 C.2.1 dX1_takeHint_7 rfl (kh_at hl 0 rfl) ?_
  refine kh_get C hw 11 3 rfl v0 kh_kd11 (Cn := RX1) (T := TX1) (N := 9) rfl (Nat.le_of_ble_eq_true rfl) k_9 (kf_11_3 ad ρ i0) dX1_takeHint_8 ?_
  refine lv_iload_n C.1 C.2.1 dX1_takeHint_11 rfl (kh_at hl 1 rfl) ?_
  obtain ⟨g_1, hF⟩ := kh_gd_ok hF
  refine kh_iald C hw 12 rfl v0 kh_kd12 g_1 dX1_takeHint_12 ?_
  refine lv_imul C.1 C.2.1 dX1_takeHint_13 ?_
  refine lv_iadd C.1 C.2.1 dX1_takeHint_14 ?_
  refine lv_iadd C.1 C.2.1 dX1_takeHint_15 ?_
  refine kh_putI C hw hS 11 5 rfl v0 kh_kd11 (by decide) (Cn := RX1) (T := TX1) (N := 9) rfl (Nat.le_of_ble_eq_true rfl) (kq_11_5) k_35 rfl (by decide +kernel) dX1_takeHint_16 (fun H locs hw hS => ?_)
  refine lv_aload_n C.1 C.2.1 dX1_takeHint_19 rfl (kh_at hl 0 rfl) ?_
  refine kh_get C hw 11 3 rfl (kh_lu v0) kh_kd11 (Cn := RX1) (T := TX1) (N := 9) rfl (Nat.le_of_ble_eq_true rfl) k_9 (kf_11_3 ad (kh_up ρ 11 5 i0 0 ((ρ 11 5 i0 0) + ((2 : Int32) + ((3 : Int32) * (ρ 12 0 i0 x1.toNatClampNeg))))) i0) dX1_takeHint_20 ?_
  refine lv_iload_n C.1 C.2.1 dX1_takeHint_23 rfl (kh_at hl 1 rfl) ?_
  refine lv_dup2_11 C.1 C.2.1 dX1_takeHint_24 rfl rfl ?_
  refine kh_iald C hw 12 rfl (kh_lu v0) kh_kd12 g_1 dX1_takeHint_25 ?_
  refine lv_iconst (v := (1 : Int32)) C.1 C.2.1 dX1_takeHint_26 (by decide) ?_
  refine lv_iadd C.1 C.2.1 dX1_takeHint_27 ?_
  refine kh_iast C hw hS 12 rfl (kh_lu v0) (by decide) kh_kd12 g_1 dX1_takeHint_28 (fun H locs hw hS => ?_)
  refine lv_aload_n C.1 C.2.1 dX1_takeHint_29 rfl (kh_at hl 0 rfl) ?_
  refine lv_dup C.1 C.2.1 dX1_takeHint_30 rfl ?_
  refine kh_get C hw 11 4 rfl (kh_lu (kh_lu v0)) kh_kd11 (Cn := RX1) (T := TX1) (N := 9) rfl (Nat.le_of_ble_eq_true rfl) k_38 (kf_11_4 ad (kh_up (kh_up ρ 11 5 i0 0 ((ρ 11 5 i0 0) + ((2 : Int32) + ((3 : Int32) * (ρ 12 0 i0 x1.toNatClampNeg))))) 12 0 i0 x1.toNatClampNeg (((kh_up ρ 11 5 i0 0 ((ρ 11 5 i0 0) + ((2 : Int32) + ((3 : Int32) * (ρ 12 0 i0 x1.toNatClampNeg))))) 12 0 i0 x1.toNatClampNeg) + (1 : Int32))) i0) dX1_takeHint_31 ?_
  refine lv_iconst (v := (1 : Int32)) C.1 C.2.1 dX1_takeHint_34 (by decide) ?_
  refine lv_iadd C.1 C.2.1 dX1_takeHint_35 ?_
  refine kh_putI C hw hS 11 4 rfl (kh_lu (kh_lu v0)) kh_kd11 (by decide) (Cn := RX1) (T := TX1) (N := 9) rfl (Nat.le_of_ble_eq_true rfl) (kq_11_4) k_38 rfl (by decide +kernel) dX1_takeHint_36 (fun H locs hw hS => ?_)
  exact W.vret C.1 C.2.1 hr (fun t ht hW => ⟨⟨kh_up (kh_up (kh_up ρ 11 5 i0 0 ((ρ 11 5 i0 0) + ((2 : Int32) + ((3 : Int32) * (ρ 12 0 i0 x1.toNatClampNeg))))) 12 0 i0 x1.toNatClampNeg (((kh_up ρ 11 5 i0 0 ((ρ 11 5 i0 0) + ((2 : Int32) + ((3 : Int32) * (ρ 12 0 i0 x1.toNatClampNeg))))) 12 0 i0 x1.toNatClampNeg) + (1 : Int32))) 11 4 i0 0 (((kh_up (kh_up ρ 11 5 i0 0 ((ρ 11 5 i0 0) + ((2 : Int32) + ((3 : Int32) * (ρ 12 0 i0 x1.toNatClampNeg))))) 12 0 i0 x1.toNatClampNeg (((kh_up ρ 11 5 i0 0 ((ρ 11 5 i0 0) + ((2 : Int32) + ((3 : Int32) * (ρ 12 0 i0 x1.toNatClampNeg))))) 12 0 i0 x1.toNatClampNeg) + (1 : Int32))) 11 4 i0 0) + (1 : Int32)), rfl, hF0.trans hF.symm, kh_bk ht hw⟩, hS.F ht⟩) hS.2.2 dX1_takeHint_39

def f_X3_begin (ρ : kh_S) (i0 : Nat) (x1 : Int32) (x2 : Int32) (x3 : Int32) : Option (kh_S) := kh_gd (decide (i0 < kh_n ρ 13)) (some (kh_up (kh_up (kh_up ρ 13 0 i0 0 x1) 13 1 i0 0 x2) 13 2 i0 0 x3))
set_option maxHeartbeats 4000000 in
set_option maxRecDepth 100000 in
theorem c_X3_begin (l : Launch) (D : va_G) (ca : Nat → ClassId) (A : Nat → Prop) (ad : Nat → Nat → Nat) (ρ : kh_S) (i0 : Nat) (x1 : Int32) (x2 : Int32) (x3 : Int32) {q0 : kh_S} (hF0 : f_X3_begin ρ i0 x1 x2 x3 = some q0) : Met l yX3_begin wsX3_begin ({ frames := 0, cells := 0, slots := 0, locals := 0 } : Room) (va_Pc [.ref (ad 13 i0), va_rf (kh_rc ad 6 x1), .int x2, .int x3] (kh_I D ca A ad ρ)) (kh_Qv D ca A ad (f_X3_begin ρ i0 x1 x2 x3)) 0 0 A := by
  refine Met.ofW (cc := cX3_begin) (maxL := 4) (ret := none) (by decide) rfl ?_
  intro p e s m args below meth c s₁ B hml hv
  obtain ⟨rfl, hK, hw, hA⟩ := hv
  have C : kh_C p s m ([.ref (ad 13 i0), va_rf (kh_rc ad 6 x1), .int x2, .int x3]).toArray c cX3_begin 4 RX3 wsX3_begin D ca A := ⟨B.exec, B.bytes, hml, findClass_of_methodNamed B.named, atoms_spec (ws := wsX3_begin) B.pre, hK, hA⟩
  have hr := B.returns
  have hlocks := B.notSynchronized
  have hS : va_S A s.heap s.heap [] := va_S.rf
  have hl := kh_entry ([.ref (ad 13 i0), va_rf (kh_rc ad 6 x1), .int x2, .int x3]) (n := 4) (kh_ac rfl (kh_ac (kh_c1 _) (kh_ac rfl (kh_ac rfl kh_an)))) (Nat.le_of_ble_eq_true rfl)
  rw [lg_entry_eq]
  generalize (lg_sl ([.ref (ad 13 i0), va_rf (kh_rc ad 6 x1), .int x2, .int x3]) ++ List.replicate (4 - (lg_sl ([.ref (ad 13 i0), va_rf (kh_rc ad 6 x1), .int x2, .int x3])).length) Slot.unset).toArray = ls at hl ⊢
  have hl : kh_lv ls 4 [(0, .ref (ad 13 i0)), (1, va_rf (kh_rc ad 6 x1)), (2, .int x2), (3, .int x3)] := hl
  have k_18 := C.2.2.2.2.1 (.fieldLink RX3 18 "KeylessHall$Worker" "place" "LKeylessHall$Room;") (by decide +kernel)
  have k_9 := C.2.2.2.2.1 (.fieldLink RX3 9 "KeylessHall$Worker" "puzzle" "I") (by decide +kernel)
  have k_15 := C.2.2.2.2.1 (.fieldLink RX3 15 "KeylessHall$Worker" "minutesLeft" "I") (by decide +kernel)
  have hF := hF0
  unfold f_X3_begin at hF
  obtain ⟨v0, hF⟩ := kh_gd_ok hF
  have v0 := of_decide_eq_true v0
  refine lv_aload_n C.1 C.2.1 dX3_begin_0 rfl (kh_at hl 0 rfl) ?_
  refine kh_aload_n C.1 C.2.1 dX3_begin_1 rfl (kh_at hl 1 rfl) ?_
  refine kh_putR C hw hS 13 0 6 (x := x1) (C2 := "KeylessHall$Room") rfl v0 kh_kd13 (by decide) (Cn := RX3) (T := TX3) (N := 3) rfl (Nat.le_of_ble_eq_true rfl) (kq_13_0) k_18 rfl (by decide +kernel) rfl dX3_begin_2 (fun H locs hw hS => ?_)
  refine lv_aload_n C.1 C.2.1 dX3_begin_5 rfl (kh_at hl 0 rfl) ?_
  refine lv_iload_n C.1 C.2.1 dX3_begin_6 rfl (kh_at hl 2 rfl) ?_
  refine kh_putI C hw hS 13 1 rfl (kh_lu v0) kh_kd13 (by decide) (Cn := RX3) (T := TX3) (N := 3) rfl (Nat.le_of_ble_eq_true rfl) (kq_13_1) k_9 rfl (by decide +kernel) dX3_begin_7 (fun H locs hw hS => ?_)
  refine lv_aload_n C.1 C.2.1 dX3_begin_10 rfl (kh_at hl 0 rfl) ?_
  refine lv_iload_n C.1 C.2.1 dX3_begin_11 rfl (kh_at hl 3 rfl) ?_
  refine kh_putI C hw hS 13 2 rfl (kh_lu (kh_lu v0)) kh_kd13 (by decide) (Cn := RX3) (T := TX3) (N := 3) rfl (Nat.le_of_ble_eq_true rfl) (kq_13_2) k_15 rfl (by decide +kernel) dX3_begin_12 (fun H locs hw hS => ?_)
  exact W.vret C.1 C.2.1 hr (fun t ht hW => ⟨⟨kh_up (kh_up (kh_up ρ 13 0 i0 0 x1) 13 1 i0 0 x2) 13 2 i0 0 x3, rfl, hF0.trans hF.symm, kh_bk ht hw⟩, hS.F ht⟩) hS.2.2 dX3_begin_15

def f_X3_stop (ρ : kh_S) (i0 : Nat) : Option (kh_S) := kh_gd (decide (i0 < kh_n ρ 13)) (some (kh_up (kh_up (kh_up ρ 13 0 i0 0 (-1)) 13 1 i0 0 (-1 : Int32)) 13 2 i0 0 (-1 : Int32)))
set_option maxHeartbeats 4000000 in
set_option maxRecDepth 100000 in
theorem c_X3_stop (l : Launch) (D : va_G) (ca : Nat → ClassId) (A : Nat → Prop) (ad : Nat → Nat → Nat) (ρ : kh_S) (i0 : Nat) {q0 : kh_S} (hF0 : f_X3_stop ρ i0 = some q0) : Met l yX3_stop wsX3_stop ({ frames := 0, cells := 0, slots := 0, locals := 0 } : Room) (va_Pc [.ref (ad 13 i0)] (kh_I D ca A ad ρ)) (kh_Qv D ca A ad (f_X3_stop ρ i0)) 0 0 A := by
  refine Met.ofW (cc := cX3_stop) (maxL := 1) (ret := none) (by decide) rfl ?_
  intro p e s m args below meth c s₁ B hml hv
  obtain ⟨rfl, hK, hw, hA⟩ := hv
  have C : kh_C p s m ([.ref (ad 13 i0)]).toArray c cX3_stop 1 RX3 wsX3_stop D ca A := ⟨B.exec, B.bytes, hml, findClass_of_methodNamed B.named, atoms_spec (ws := wsX3_stop) B.pre, hK, hA⟩
  have hr := B.returns
  have hlocks := B.notSynchronized
  have hS : va_S A s.heap s.heap [] := va_S.rf
  have hl := kh_entry ([.ref (ad 13 i0)]) (n := 1) (kh_ac rfl kh_an) (Nat.le_of_ble_eq_true rfl)
  rw [lg_entry_eq]
  generalize (lg_sl ([.ref (ad 13 i0)]) ++ List.replicate (1 - (lg_sl ([.ref (ad 13 i0)])).length) Slot.unset).toArray = ls at hl ⊢
  have hl : kh_lv ls 1 [(0, .ref (ad 13 i0))] := hl
  have k_18 := C.2.2.2.2.1 (.fieldLink RX3 18 "KeylessHall$Worker" "place" "LKeylessHall$Room;") (by decide +kernel)
  have k_9 := C.2.2.2.2.1 (.fieldLink RX3 9 "KeylessHall$Worker" "puzzle" "I") (by decide +kernel)
  have k_15 := C.2.2.2.2.1 (.fieldLink RX3 15 "KeylessHall$Worker" "minutesLeft" "I") (by decide +kernel)
  have hF := hF0
  unfold f_X3_stop at hF
  obtain ⟨v0, hF⟩ := kh_gd_ok hF
  have v0 := of_decide_eq_true v0
  refine lv_aload_n C.1 C.2.1 dX3_stop_0 rfl (kh_at hl 0 rfl) ?_
  refine lv_null C.1 C.2.1 dX3_stop_1 ?_
  refine kh_putR C hw hS 13 0 6 (x := (-1)) (C2 := "KeylessHall$Room") rfl v0 kh_kd13 (by decide) (Cn := RX3) (T := TX3) (N := 3) rfl (Nat.le_of_ble_eq_true rfl) (kq_13_0) k_18 rfl (by decide +kernel) rfl dX3_stop_2 (fun H locs hw hS => ?_)
  refine lv_aload_n C.1 C.2.1 dX3_stop_5 rfl (kh_at hl 0 rfl) ?_
  refine lv_iconst (v := (-1 : Int32)) C.1 C.2.1 dX3_stop_6 (by decide) ?_
  refine kh_putI C hw hS 13 1 rfl (kh_lu v0) kh_kd13 (by decide) (Cn := RX3) (T := TX3) (N := 3) rfl (Nat.le_of_ble_eq_true rfl) (kq_13_1) k_9 rfl (by decide +kernel) dX3_stop_7 (fun H locs hw hS => ?_)
  refine lv_aload_n C.1 C.2.1 dX3_stop_10 rfl (kh_at hl 0 rfl) ?_
  refine lv_iconst (v := (-1 : Int32)) C.1 C.2.1 dX3_stop_11 (by decide) ?_
  refine kh_putI C hw hS 13 2 rfl (kh_lu (kh_lu v0)) kh_kd13 (by decide) (Cn := RX3) (T := TX3) (N := 3) rfl (Nat.le_of_ble_eq_true rfl) (kq_13_2) k_15 rfl (by decide +kernel) dX3_stop_12 (fun H locs hw hS => ?_)
  exact W.vret C.1 C.2.1 hr (fun t ht hW => ⟨⟨kh_up (kh_up (kh_up ρ 13 0 i0 0 (-1)) 13 1 i0 0 (-1 : Int32)) 13 2 i0 0 (-1 : Int32), rfl, hF0.trans hF.symm, kh_bk ht hw⟩, hS.F ht⟩) hS.2.2 dX3_stop_15

