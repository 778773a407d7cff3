def f_X5_thrown (ρ : kh_S)  : Option (Int32) := some (ρ 15 0 0 0)
set_option maxHeartbeats 4000000 in
set_option maxRecDepth 100000 in
theorem c_X5_thrown (l : Launch) (D : va_G) (ca : Nat → ClassId) (A : Nat → Prop) (ad : Nat → Nat → Nat) (ρ : kh_S)  {q0 : Int32} (hF0 : f_X5_thrown ρ = some q0) : Met l yX5_thrown wsX5_thrown ({ frames := 0, cells := 0, slots := 0, locals := 0 } : Room) (va_Pc [.ref (ad 15 0)] (kh_I D ca A ad ρ)) (kh_Qi D ca A ad (kh_pu (f_X5_thrown ρ) ρ)) 0 0 A := by
  refine Met.ofW (cc := cX5_thrown) (maxL := 1) (ret := (some .int)) (by decide) rfl ?_
  intro p e s m args below meth c s₁ B hml hv
  obtain ⟨rfl, hK, hw, hA⟩ := hv
  have C : kh_C p s m ([.ref (ad 15 0)]).toArray c cX5_thrown 1 RX5 wsX5_thrown D ca A := ⟨B.exec, B.bytes, hml, findClass_of_methodNamed B.named, atoms_spec (ws := wsX5_thrown) B.pre, hK, hA⟩
  have hr := B.returns
  have hlocks := B.notSynchronized
  have hS : va_S A s.heap s.heap [] := va_S.rf
  have hl := kh_entry ([.ref (ad 15 0)]) (n := 1) (kh_ac rfl kh_an) (Nat.le_of_ble_eq_true rfl)
  rw [lg_entry_eq]
  generalize (lg_sl ([.ref (ad 15 0)]) ++ List.replicate (1 - (lg_sl ([.ref (ad 15 0)])).length) Slot.unset).toArray = ls at hl ⊢
  have hl : kh_lv ls 1 [(0, .ref (ad 15 0))] := hl
  have k_92 := C.2.2.2.2.1 (.fieldLink RX5 92 "KeylessHallModel" "thrown" "I") (by decide +kernel)
  have hF := hF0
  unfold f_X5_thrown at hF
  refine lv_aload_n C.1 C.2.1 dX5_thrown_0 rfl (kh_at hl 0 rfl) ?_
  refine kh_get C hw 15 0 rfl (kh_z15 ρ) kh_kd15 (Cn := RX5) (T := TX5) (N := 33) rfl (Nat.le_of_ble_eq_true rfl) k_92 (kf_15_0 ad ρ 0) dX5_thrown_1 ?_
  exact W.iret (v := ρ 15 0 0 0) C.1 C.2.1 hr (fun t ht hW => ⟨⟨ρ 15 0 0 0, ρ, rfl, kh_mp (hF0.trans hF.symm), kh_bk ht hw⟩, hS.F ht⟩) hS.2.2 dX5_thrown_4

def f_X5_in_L15 (ρ : kh_S) (t0_15 : Int32) : Option (Int32) := kh_gd (kh_b t0_15) (some t0_15)
def f_X5_in_L14 (ρ : kh_S) : Option (Int32) := f_X5_in_L15 ρ (0 : Int32)
def f_X5_in (ρ : kh_S) (x0 : Int32) (x1 : Int32) (x2 : Int32) : Option (Int32) := if x0 < x1 then f_X5_in_L14 ρ else if x2 < x0 then f_X5_in_L14 ρ else f_X5_in_L15 ρ (1 : Int32)
set_option maxHeartbeats 4000000 in
set_option maxRecDepth 100000 in
theorem c_X5_in (l : Launch) (D : va_G) (ca : Nat → ClassId) (A : Nat → Prop) (ad : Nat → Nat → Nat) (ρ : kh_S) (x0 : Int32) (x1 : Int32) (x2 : Int32) {q0 : Int32} (hF0 : f_X5_in ρ x0 x1 x2 = some q0) : Met l yX5_in wsX5_in ({ frames := 0, cells := 0, slots := 0, locals := 0 } : Room) (va_Pc [.int x0, .int x1, .int x2] (kh_I D ca A ad ρ)) (kh_Qi D ca A ad (kh_pu (f_X5_in ρ x0 x1 x2) ρ)) 0 0 A := by
  refine Met.ofW (cc := cX5_in) (maxL := 3) (ret := (some .boolean)) (by decide) rfl ?_
  intro p e s m args below meth c s₁ B hml hv
  obtain ⟨rfl, hK, hw, hA⟩ := hv
  have C : kh_C p s m ([.int x0, .int x1, .int x2]).toArray c cX5_in 3 RX5 wsX5_in D ca A := ⟨B.exec, B.bytes, hml, findClass_of_methodNamed B.named, atoms_spec (ws := wsX5_in) B.pre, hK, hA⟩
  have hr := B.returns
  have hlocks := B.notSynchronized
  have hS : va_S A s.heap s.heap [] := va_S.rf
  have hl := kh_entry ([.int x0, .int x1, .int x2]) (n := 3) (kh_ac rfl (kh_ac rfl (kh_ac rfl kh_an))) (Nat.le_of_ble_eq_true rfl)
  rw [lg_entry_eq]
  generalize (lg_sl ([.int x0, .int x1, .int x2]) ++ List.replicate (3 - (lg_sl ([.int x0, .int x1, .int x2])).length) Slot.unset).toArray = ls at hl ⊢
  have hl : kh_lv ls 3 [(0, .int x0), (1, .int x1), (2, .int x2)] := hl
  have hF := hF0
  unfold f_X5_in at hF
  have wL15 : ∀ (t0_15 : Int32) (H : Heap) (locs : List Loc) (ls : Array Slot), f_X5_in_L15 ρ t0_15 = some q0 → kh_w D ca A ad ρ H → va_S A s.heap H locs → kh_lv ls 3 [] → W p l e (headSpec wsX5_in ({ frames := 0, cells := 0, slots := 0, locals := 0 } : Room)).room s m ([.int x0, .int x1, .int x2]).toArray below meth c H locs 0 0 (MQ below (kh_Qi D ca A ad (kh_pu (f_X5_in ρ x0 x1 x2) ρ)) ([.int x0, .int x1, .int x2]).toArray s 0 0 A) (F0 m 15 ls [.int t0_15]) := by
    intro t0_15 H locs ls hF hw hS hl
    unfold f_X5_in_L15 at hF
    obtain ⟨g_1, hF⟩ := kh_gd_ok hF
    exact W.zret (v := t0_15) (ty := .boolean) C.1 C.2.1 hr (kh_b_ok g_1).1 (fun t ht hW => ⟨⟨t0_15, ρ, rfl, kh_mp (hF0.trans hF.symm), kh_bk ht hw⟩, hS.F ht⟩) hS.2.2 dX5_in_15
  have wL14 : ∀ (H : Heap) (locs : List Loc) (ls : Array Slot), f_X5_in_L14 ρ = some q0 → kh_w D ca A ad ρ H → va_S A s.heap H locs → kh_lv ls 3 [] → W p l e (headSpec wsX5_in ({ frames := 0, cells := 0, slots := 0, locals := 0 } : Room)).room s m ([.int x0, .int x1, .int x2]).toArray below meth c H locs 0 0 (MQ below (kh_Qi D ca A ad (kh_pu (f_X5_in ρ x0 x1 x2) ρ)) ([.int x0, .int x1, .int x2]).toArray s 0 0 A) (F0 m 14 ls []) := by
    intro  H locs ls hF hw hS hl
    unfold f_X5_in_L14 at hF
    refine lv_iconst (v := (0 : Int32)) C.1 C.2.1 dX5_in_14 (by decide) ?_
    exact wL15 (0 : Int32) _ _ _ hF hw hS (kh_sub hl [] rfl)
  refine lv_iload_n C.1 C.2.1 dX5_in_0 rfl (kh_at hl 0 rfl) ?_
  refine lv_iload_n C.1 C.2.1 dX5_in_1 rfl (kh_at hl 1 rfl) ?_
  refine lv_icmp_lt (tgt := 14) C.1 C.2.1 dX5_in_2 (by decide) (fun c_2 => ?_) (fun c_2 => ?_)
  · have hF := kh_ift hF c_2
    exact wL14  _ _ _ hF hw hS (kh_sub hl [] rfl)
  · have hF := kh_iff hF c_2
    refine lv_iload_n C.1 C.2.1 dX5_in_5 rfl (kh_at hl 0 rfl) ?_
    refine lv_iload_n C.1 C.2.1 dX5_in_6 rfl (kh_at hl 2 rfl) ?_
    refine lv_icmp_gt (tgt := 14) C.1 C.2.1 dX5_in_7 (by decide) (fun c_3 => ?_) (fun c_3 => ?_)
    · have hF := kh_ift hF c_3
      exact wL14  _ _ _ hF hw hS (kh_sub hl [] rfl)
    · have hF := kh_iff hF c_3
      refine lv_iconst (v := (1 : Int32)) C.1 C.2.1 dX5_in_10 (by decide) ?_
      refine lv_goto (tgt := 15) C.1 C.2.1 dX5_in_11 (by decide) ?_
      exact wL15 (1 : Int32) _ _ _ hF hw hS (kh_sub hl [] rfl)

def f_X5_refused_L14 (ρ_14 : kh_S) (t0_14 : Int32) : Option (Int32 × kh_S) := kh_gd (kh_b t0_14) (some (t0_14, ρ_14))
def f_X5_refused (ρ : kh_S) (x1 : Int32) : Option (Int32 × kh_S) := if x1 = 0 then f_X5_refused_L14 (kh_up ρ 15 0 0 0 x1) (0 : Int32) else f_X5_refused_L14 (kh_up ρ 15 0 0 0 x1) (1 : Int32)
set_option maxHeartbeats 4000000 in
set_option maxRecDepth 100000 in
theorem c_X5_refused (l : Launch) (D : va_G) (ca : Nat → ClassId) (A : Nat → Prop) (ad : Nat → Nat → Nat) (ρ : kh_S) (x1 : Int32) {q0 : Int32 × kh_S} (hF0 : f_X5_refused ρ x1 = some q0) : Met l yX5_refused wsX5_refused ({ frames := 0, cells := 0, slots := 0, locals := 0 } : Room) (va_Pc [.ref (ad 15 0), .int x1] (kh_I D ca A ad ρ)) (kh_Qi D ca A ad (f_X5_refused ρ x1)) 0 0 A := by
  refine Met.ofW (cc := cX5_refused) (maxL := 2) (ret := (some .boolean)) (by decide) rfl ?_
  intro p e s m args below meth c s₁ B hml hv
  obtain ⟨rfl, hK, hw, hA⟩ := hv
  have C : kh_C p s m ([.ref (ad 15 0), .int x1]).toArray c cX5_refused 2 RX5 wsX5_refused D ca A := ⟨B.exec, B.bytes, hml, findClass_of_methodNamed B.named, atoms_spec (ws := wsX5_refused) B.pre, hK, hA⟩
  have hr := B.returns
  have hlocks := B.notSynchronized
  have hS : va_S A s.heap s.heap [] := va_S.rf
  have hl := kh_entry ([.ref (ad 15 0), .int x1]) (n := 2) (kh_ac rfl (kh_ac rfl kh_an)) (Nat.le_of_ble_eq_true rfl)
  rw [lg_entry_eq]
  generalize (lg_sl ([.ref (ad 15 0), .int x1]) ++ List.replicate (2 - (lg_sl ([.ref (ad 15 0), .int x1])).length) Slot.unset).toArray = ls at hl ⊢
  have hl : kh_lv ls 2 [(0, .ref (ad 15 0)), (1, .int x1)] := hl
  have k_92 := C.2.2.2.2.1 (.fieldLink RX5 92 "KeylessHallModel" "thrown" "I") (by decide +kernel)
  have hF := hF0
  unfold f_X5_refused at hF
  have wL14 : ∀ (ρ_14 : kh_S) (t0_14 : Int32) (H : Heap) (locs : List Loc) (ls : Array Slot), f_X5_refused_L14 ρ_14 t0_14 = some q0 → kh_w D ca A ad ρ_14 H → va_S A s.heap H locs → kh_lv ls 2 [] → W p l e (headSpec wsX5_refused ({ frames := 0, cells := 0, slots := 0, locals := 0 } : Room)).room s m ([.ref (ad 15 0), .int x1]).toArray below meth c H locs 0 0 (MQ below (kh_Qi D ca A ad (f_X5_refused ρ x1)) ([.ref (ad 15 0), .int x1]).toArray s 0 0 A) (F0 m 14 ls [.int t0_14]) := by
    intro ρ_14 t0_14 H locs ls hF hw hS hl
    unfold f_X5_refused_L14 at hF
    obtain ⟨g_1, hF⟩ := kh_gd_ok hF
    exact W.zret (v := t0_14) (ty := .boolean) C.1 C.2.1 hr (kh_b_ok g_1).1 (fun t ht hW => ⟨⟨t0_14, ρ_14, rfl, hF0.trans hF.symm, kh_bk ht hw⟩, hS.F ht⟩) hS.2.2 dX5_refused_14
  refine lv_aload_n C.1 C.2.1 dX5_refused_0 rfl (kh_at hl 0 rfl) ?_
  refine lv_iload_n C.1 C.2.1 dX5_refused_1 rfl (kh_at hl 1 rfl) ?_
  refine kh_putI C hw hS 15 0 rfl (kh_z15 ρ) kh_kd15 (by decide) (Cn := RX5) (T := TX5) (N := 33) rfl (Nat.le_of_ble_eq_true rfl) (kq_15_0) k_92 rfl (by decide +kernel) dX5_refused_2 (fun H locs hw hS => ?_)
  refine lv_iload_n C.1 C.2.1 dX5_refused_5 rfl (kh_at hl 1 rfl) ?_
  refine lv_if_eq (tgt := 13) C.1 C.2.1 dX5_refused_6 (by decide) (fun c_2 => ?_) (fun c_2 => ?_)
  · have hF := kh_ift hF c_2
    refine lv_iconst (v := (0 : Int32)) C.1 C.2.1 dX5_refused_13 (by decide) ?_
    exact wL14 (kh_up ρ 15 0 0 0 x1) (0 : Int32) _ _ _ hF hw hS (kh_sub hl [] rfl)
  · have hF := kh_iff hF c_2
    refine lv_iconst (v := (1 : Int32)) C.1 C.2.1 dX5_refused_9 (by decide) ?_
    refine lv_goto (tgt := 14) C.1 C.2.1 dX5_refused_10 (by decide) ?_
    exact wL14 (kh_up ρ 15 0 0 0 x1) (1 : Int32) _ _ _ hF hw hS (kh_sub hl [] rfl)

def f_X5_isRoom (ρ : kh_S) (x1 : Int32) : Option (Int32) := kh_bd (f_X5_in ρ x1 (0 : Int32) ((ρ 15 3 0 0) - (1 : Int32))) (fun r_1 => kh_gd (kh_b r_1) (some r_1))
set_option maxHeartbeats 4000000 in
set_option maxRecDepth 100000 in
theorem c_X5_isRoom (l : Launch) (D : va_G) (ca : Nat → ClassId) (A : Nat → Prop) (ad : Nat → Nat → Nat) (ρ : kh_S) (x1 : Int32) {q0 : Int32} (hF0 : f_X5_isRoom ρ x1 = some q0) : Met l yX5_isRoom wsX5_isRoom ({ frames := 1, cells := 0, slots := 0, locals := 22 } : Room) (va_Pc [.ref (ad 15 0), .int x1] (kh_I D ca A ad ρ)) (kh_Qi D ca A ad (kh_pu (f_X5_isRoom ρ x1) ρ)) 0 0 A := by
  refine Met.ofW (cc := cX5_isRoom) (maxL := 2) (ret := (some .boolean)) (by decide) rfl ?_
  intro p e s m args below meth c s₁ B hml hv
  obtain ⟨rfl, hK, hw, hA⟩ := hv
  have C : kh_C p s m ([.ref (ad 15 0), .int x1]).toArray c cX5_isRoom 2 RX5 wsX5_isRoom D ca A := ⟨B.exec, B.bytes, hml, findClass_of_methodNamed B.named, atoms_spec (ws := wsX5_isRoom) B.pre, hK, hA⟩
  have hr := B.returns
  have hlocks := B.notSynchronized
  have hS : va_S A s.heap s.heap [] := va_S.rf
  have hl := kh_entry ([.ref (ad 15 0), .int x1]) (n := 2) (kh_ac rfl (kh_ac rfl kh_an)) (Nat.le_of_ble_eq_true rfl)
  rw [lg_entry_eq]
  generalize (lg_sl ([.ref (ad 15 0), .int x1]) ++ List.replicate (2 - (lg_sl ([.ref (ad 15 0), .int x1])).length) Slot.unset).toArray = ls at hl ⊢
  have hl : kh_lv ls 2 [(0, .ref (ad 15 0)), (1, .int x1)] := hl
  have k_96 := C.2.2.2.2.1 (.fieldLink RX5 96 "KeylessHallModel" "rooms" "I") (by decide +kernel)
  have hF := hF0
  unfold f_X5_isRoom at hF
  refine lv_iload_n C.1 C.2.1 dX5_isRoom_0 rfl (kh_at hl 1 rfl) ?_
  refine lv_iconst (v := (0 : Int32)) C.1 C.2.1 dX5_isRoom_1 (by decide) ?_
  refine lv_aload_n C.1 C.2.1 dX5_isRoom_2 rfl (kh_at hl 0 rfl) ?_
  refine kh_get C hw 15 3 rfl (kh_z15 ρ) kh_kd15 (Cn := RX5) (T := TX5) (N := 33) rfl (Nat.le_of_ble_eq_true rfl) k_96 (kf_15_3 ad ρ 0) dX5_isRoom_3 ?_
  refine lv_iconst (v := (1 : Int32)) C.1 C.2.1 dX5_isRoom_6 (by decide) ?_
  refine lv_isub C.1 C.2.1 dX5_isRoom_7 ?_
  obtain ⟨r_1, h_1, hF⟩ := kh_bd_ok hF
  refine kh_calli (va_runS (As := [.int x1, .int (0 : Int32), .int ((ρ 15 3 0 0) - (1 : Int32))]) (rest := []) ⟨C.1, C.2.1, C.2.2.1, C.2.2.2.1, C.2.2.2.2.1⟩ (c_X5_in l D ca A ad ρ x1 (0 : Int32) ((ρ 15 3 0 0) - (1 : Int32)) h_1) (va_cwS 3 C.2.2.2.2.1 gX5_isRoom_X5_in rfl rfl rfl (by decide +kernel) ⟨Nat.le_of_ble_eq_true rfl, Nat.le_of_ble_eq_true rfl⟩) (kh_preS C hw hS) rfl rfl hl.1.1 rfl (lv_room (kh_sum kh_an (Nat.le_of_ble_eq_true rfl))) dX5_isRoom_8 ⟨Nat.le_of_ble_eq_true rfl, Nat.le_of_ble_eq_true rfl⟩) hS (kh_mp h_1) (fun H locs hw hS => ?_)
  obtain ⟨g_2, hF⟩ := kh_gd_ok hF
  exact W.zret (v := r_1) (ty := .boolean) C.1 C.2.1 hr (kh_b_ok g_2).1 (fun t ht hW => ⟨⟨r_1, ρ, rfl, kh_mp (hF0.trans hF.symm), kh_bk ht hw⟩, hS.F ht⟩) hS.2.2 dX5_isRoom_11

def f_X5_isGroup (ρ : kh_S) (x1 : Int32) : Option (Int32) := kh_bd (f_X5_in ρ x1 (0 : Int32) ((ρ 15 14 0 0) - (1 : Int32))) (fun r_1 => kh_gd (kh_b r_1) (some r_1))
set_option maxHeartbeats 4000000 in
set_option maxRecDepth 100000 in
theorem c_X5_isGroup (l : Launch) (D : va_G) (ca : Nat → ClassId) (A : Nat → Prop) (ad : Nat → Nat → Nat) (ρ : kh_S) (x1 : Int32) {q0 : Int32} (hF0 : f_X5_isGroup ρ x1 = some q0) : Met l yX5_isGroup wsX5_isGroup ({ frames := 1, cells := 0, slots := 0, locals := 22 } : Room) (va_Pc [.ref (ad 15 0), .int x1] (kh_I D ca A ad ρ)) (kh_Qi D ca A ad (kh_pu (f_X5_isGroup ρ x1) ρ)) 0 0 A := by
  refine Met.ofW (cc := cX5_isGroup) (maxL := 2) (ret := (some .boolean)) (by decide) rfl ?_
  intro p e s m args below meth c s₁ B hml hv
  obtain ⟨rfl, hK, hw, hA⟩ := hv
  have C : kh_C p s m ([.ref (ad 15 0), .int x1]).toArray c cX5_isGroup 2 RX5 wsX5_isGroup D ca A := ⟨B.exec, B.bytes, hml, findClass_of_methodNamed B.named, atoms_spec (ws := wsX5_isGroup) B.pre, hK, hA⟩
  have hr := B.returns
  have hlocks := B.notSynchronized
  have hS : va_S A s.heap s.heap [] := va_S.rf
  have hl := kh_entry ([.ref (ad 15 0), .int x1]) (n := 2) (kh_ac rfl (kh_ac rfl kh_an)) (Nat.le_of_ble_eq_true rfl)
  rw [lg_entry_eq]
  generalize (lg_sl ([.ref (ad 15 0), .int x1]) ++ List.replicate (2 - (lg_sl ([.ref (ad 15 0), .int x1])).length) Slot.unset).toArray = ls at hl ⊢
  have hl : kh_lv ls 2 [(0, .ref (ad 15 0)), (1, .int x1)] := hl
  have k_103 := C.2.2.2.2.1 (.fieldLink RX5 103 "KeylessHallModel" "groups" "I") (by decide +kernel)
  have hF := hF0
  unfold f_X5_isGroup at hF
  refine lv_iload_n C.1 C.2.1 dX5_isGroup_0 rfl (kh_at hl 1 rfl) ?_
  refine lv_iconst (v := (0 : Int32)) C.1 C.2.1 dX5_isGroup_1 (by decide) ?_
  refine lv_aload_n C.1 C.2.1 dX5_isGroup_2 rfl (kh_at hl 0 rfl) ?_
  refine kh_get C hw 15 14 rfl (kh_z15 ρ) kh_kd15 (Cn := RX5) (T := TX5) (N := 33) rfl (Nat.le_of_ble_eq_true rfl) k_103 (kf_15_14 ad ρ 0) dX5_isGroup_3 ?_
  refine lv_iconst (v := (1 : Int32)) C.1 C.2.1 dX5_isGroup_6 (by decide) ?_
  refine lv_isub C.1 C.2.1 dX5_isGroup_7 ?_
  obtain ⟨r_1, h_1, hF⟩ := kh_bd_ok hF
  refine kh_calli (va_runS (As := [.int x1, .int (0 : Int32), .int ((ρ 15 14 0 0) - (1 : Int32))]) (rest := []) ⟨C.1, C.2.1, C.2.2.1, C.2.2.2.1, C.2.2.2.2.1⟩ (c_X5_in l D ca A ad ρ x1 (0 : Int32) ((ρ 15 14 0 0) - (1 : Int32)) h_1) (va_cwS 3 C.2.2.2.2.1 gX5_isGroup_X5_in rfl rfl rfl (by decide +kernel) ⟨Nat.le_of_ble_eq_true rfl, Nat.le_of_ble_eq_true rfl⟩) (kh_preS C hw hS) rfl rfl hl.1.1 rfl (lv_room (kh_sum kh_an (Nat.le_of_ble_eq_true rfl))) dX5_isGroup_8 ⟨Nat.le_of_ble_eq_true rfl, Nat.le_of_ble_eq_true rfl⟩) hS (kh_mp h_1) (fun H locs hw hS => ?_)
  obtain ⟨g_2, hF⟩ := kh_gd_ok hF
  exact W.zret (v := r_1) (ty := .boolean) C.1 C.2.1 hr (kh_b_ok g_2).1 (fun t ht hW => ⟨⟨r_1, ρ, rfl, kh_mp (hF0.trans hF.symm), kh_bk ht hw⟩, hS.F ht⟩) hS.2.2 dX5_isGroup_11

def f_X5_isCrew (ρ : kh_S) (x0 : Int32) : Option (Int32) := kh_bd (f_X5_in ρ x0 (0 : Int32) (2 : Int32)) (fun r_1 => kh_gd (kh_b r_1) (some r_1))
set_option maxHeartbeats 4000000 in
set_option maxRecDepth 100000 in
theorem c_X5_isCrew (l : Launch) (D : va_G) (ca : Nat → ClassId) (A : Nat → Prop) (ad : Nat → Nat → Nat) (ρ : kh_S) (x0 : Int32) {q0 : Int32} (hF0 : f_X5_isCrew ρ x0 = some q0) : Met l yX5_isCrew wsX5_isCrew ({ frames := 1, cells := 0, slots := 0, locals := 22 } : Room) (va_Pc [.int x0] (kh_I D ca A ad ρ)) (kh_Qi D ca A ad (kh_pu (f_X5_isCrew ρ x0) ρ)) 0 0 A := by
  refine Met.ofW (cc := cX5_isCrew) (maxL := 1) (ret := (some .boolean)) (by decide) rfl ?_
  intro p e s m args below meth c s₁ B hml hv
  obtain ⟨rfl, hK, hw, hA⟩ := hv
  have C : kh_C p s m ([.int x0]).toArray c cX5_isCrew 1 RX5 wsX5_isCrew D ca A := ⟨B.exec, B.bytes, hml, findClass_of_methodNamed B.named, atoms_spec (ws := wsX5_isCrew) B.pre, hK, hA⟩
  have hr := B.returns
  have hlocks := B.notSynchronized
  have hS : va_S A s.heap s.heap [] := va_S.rf
  have hl := kh_entry ([.int x0]) (n := 1) (kh_ac rfl kh_an) (Nat.le_of_ble_eq_true rfl)
  rw [lg_entry_eq]
  generalize (lg_sl ([.int x0]) ++ List.replicate (1 - (lg_sl ([.int x0])).length) Slot.unset).toArray = ls at hl ⊢
  have hl : kh_lv ls 1 [(0, .int x0)] := hl
  have hF := hF0
  unfold f_X5_isCrew at hF
  refine lv_iload_n C.1 C.2.1 dX5_isCrew_0 rfl (kh_at hl 0 rfl) ?_
  refine lv_iconst (v := (0 : Int32)) C.1 C.2.1 dX5_isCrew_1 (by decide) ?_
  refine lv_iconst (v := (2 : Int32)) C.1 C.2.1 dX5_isCrew_2 (by decide) ?_
  obtain ⟨r_1, h_1, hF⟩ := kh_bd_ok hF
  refine kh_calli (va_runS (As := [.int x0, .int (0 : Int32), .int (2 : Int32)]) (rest := []) ⟨C.1, C.2.1, C.2.2.1, C.2.2.2.1, C.2.2.2.2.1⟩ (c_X5_in l D ca A ad ρ x0 (0 : Int32) (2 : Int32) h_1) (va_cwS 3 C.2.2.2.2.1 gX5_isCrew_X5_in rfl rfl rfl (by decide +kernel) ⟨Nat.le_of_ble_eq_true rfl, Nat.le_of_ble_eq_true rfl⟩) (kh_preS C hw hS) rfl rfl hl.1.1 rfl (lv_room (kh_sum kh_an (Nat.le_of_ble_eq_true rfl))) dX5_isCrew_3 ⟨Nat.le_of_ble_eq_true rfl, Nat.le_of_ble_eq_true rfl⟩) hS (kh_mp h_1) (fun H locs hw hS => ?_)
  obtain ⟨g_2, hF⟩ := kh_gd_ok hF
  exact W.zret (v := r_1) (ty := .boolean) C.1 C.2.1 hr (kh_b_ok g_2).1 (fun t ht hW => ⟨⟨r_1, ρ, rfl, kh_mp (hF0.trans hF.symm), kh_bk ht hw⟩, hS.F ht⟩) hS.2.2 dX5_isCrew_6

def f_X5_isBooking (ρ : kh_S) (x1 : Int32) : Option (Int32) := kh_bd (f_X5_in ρ x1 (0 : Int32) ((ρ 15 27 0 0) - (1 : Int32))) (fun r_1 => kh_gd (kh_b r_1) (some r_1))
set_option maxHeartbeats 4000000 in
set_option maxRecDepth 100000 in
theorem c_X5_isBooking (l : Launch) (D : va_G) (ca : Nat → ClassId) (A : Nat → Prop) (ad : Nat → Nat → Nat) (ρ : kh_S) (x1 : Int32) {q0 : Int32} (hF0 : f_X5_isBooking ρ x1 = some q0) : Met l yX5_isBooking wsX5_isBooking ({ frames := 1, cells := 0, slots := 0, locals := 22 } : Room) (va_Pc [.ref (ad 15 0), .int x1] (kh_I D ca A ad ρ)) (kh_Qi D ca A ad (kh_pu (f_X5_isBooking ρ x1) ρ)) 0 0 A := by
  refine Met.ofW (cc := cX5_isBooking) (maxL := 2) (ret := (some .boolean)) (by decide) rfl ?_
  intro p e s m args below meth c s₁ B hml hv
  obtain ⟨rfl, hK, hw, hA⟩ := hv
  have C : kh_C p s m ([.ref (ad 15 0), .int x1]).toArray c cX5_isBooking 2 RX5 wsX5_isBooking D ca A := ⟨B.exec, B.bytes, hml, findClass_of_methodNamed B.named, atoms_spec (ws := wsX5_isBooking) B.pre, hK, hA⟩
  have hr := B.returns
  have hlocks := B.notSynchronized
  have hS : va_S A s.heap s.heap [] := va_S.rf
  have hl := kh_entry ([.ref (ad 15 0), .int x1]) (n := 2) (kh_ac rfl (kh_ac rfl kh_an)) (Nat.le_of_ble_eq_true rfl)
  rw [lg_entry_eq]
  generalize (lg_sl ([.ref (ad 15 0), .int x1]) ++ List.replicate (2 - (lg_sl ([.ref (ad 15 0), .int x1])).length) Slot.unset).toArray = ls at hl ⊢
  have hl : kh_lv ls 2 [(0, .ref (ad 15 0)), (1, .int x1)] := hl
  have k_106 := C.2.2.2.2.1 (.fieldLink RX5 106 "KeylessHallModel" "bookings" "I") (by decide +kernel)
  have hF := hF0
  unfold f_X5_isBooking at hF
  refine lv_iload_n C.1 C.2.1 dX5_isBooking_0 rfl (kh_at hl 1 rfl) ?_
  refine lv_iconst (v := (0 : Int32)) C.1 C.2.1 dX5_isBooking_1 (by decide) ?_
  refine lv_aload_n C.1 C.2.1 dX5_isBooking_2 rfl (kh_at hl 0 rfl) ?_
  refine kh_get C hw 15 27 rfl (kh_z15 ρ) kh_kd15 (Cn := RX5) (T := TX5) (N := 33) rfl (Nat.le_of_ble_eq_true rfl) k_106 (kf_15_27 ad ρ 0) dX5_isBooking_3 ?_
  refine lv_iconst (v := (1 : Int32)) C.1 C.2.1 dX5_isBooking_6 (by decide) ?_
  refine lv_isub C.1 C.2.1 dX5_isBooking_7 ?_
  obtain ⟨r_1, h_1, hF⟩ := kh_bd_ok hF
  refine kh_calli (va_runS (As := [.int x1, .int (0 : Int32), .int ((ρ 15 27 0 0) - (1 : Int32))]) (rest := []) ⟨C.1, C.2.1, C.2.2.1, C.2.2.2.1, C.2.2.2.2.1⟩ (c_X5_in l D ca A ad ρ x1 (0 : Int32) ((ρ 15 27 0 0) - (1 : Int32)) h_1) (va_cwS 3 C.2.2.2.2.1 gX5_isBooking_X5_in rfl rfl rfl (by decide +kernel) ⟨Nat.le_of_ble_eq_true rfl, Nat.le_of_ble_eq_true rfl⟩) (kh_preS C hw hS) rfl rfl hl.1.1 rfl (lv_room (kh_sum kh_an (Nat.le_of_ble_eq_true rfl))) dX5_isBooking_8 ⟨Nat.le_of_ble_eq_true rfl, Nat.le_of_ble_eq_true rfl⟩) hS (kh_mp h_1) (fun H locs hw hS => ?_)
  obtain ⟨g_2, hF⟩ := kh_gd_ok hF
  exact W.zret (v := r_1) (ty := .boolean) C.1 C.2.1 hr (kh_b_ok g_2).1 (fun t ht hW => ⟨⟨r_1, ρ, rfl, kh_mp (hF0.trans hF.symm), kh_bk ht hw⟩, hS.F ht⟩) hS.2.2 dX5_isBooking_11

def f_X5_isOut_L32 (ρ : kh_S) (t0_32 : Int32) : Option (Int32) := kh_gd (kh_b t0_32) (some t0_32)
def f_X5_isOut_L31 (ρ : kh_S) : Option (Int32) := f_X5_isOut_L32 ρ (0 : Int32)
def f_X5_isOut (ρ : kh_S) (x1 : Int32) : Option (Int32) := kh_gd (kh_in x1 32) (if (ρ 32 0 0 x1.toNatClampNeg) = (-1 : Int32) then f_X5_isOut_L31 ρ else if (((ρ 15 2 0 0) >>> ((ρ 32 0 0 x1.toNatClampNeg) &&& 31)) &&& (1 : Int32)) = (1 : Int32) then f_X5_isOut_L32 ρ (1 : Int32) else f_X5_isOut_L31 ρ)
set_option maxHeartbeats 4000000 in
set_option maxRecDepth 100000 in
theorem c_X5_isOut (l : Launch) (D : va_G) (ca : Nat → ClassId) (A : Nat → Prop) (ad : Nat → Nat → Nat) (ρ : kh_S) (x1 : Int32) {q0 : Int32} (hF0 : f_X5_isOut ρ x1 = some q0) : Met l yX5_isOut wsX5_isOut ({ frames := 0, cells := 0, slots := 0, locals := 0 } : Room) (va_Pc [.ref (ad 15 0), .int x1] (kh_I D ca A ad ρ)) (kh_Qi D ca A ad (kh_pu (f_X5_isOut ρ x1) ρ)) 0 0 A := by
  refine Met.ofW (cc := cX5_isOut) (maxL := 2) (ret := (some .boolean)) (by decide) rfl ?_
  intro p e s m args below meth c s₁ B hml hv
  obtain ⟨rfl, hK, hw, hA⟩ := hv
  have C : kh_C p s m ([.ref (ad 15 0), .int x1]).toArray c cX5_isOut 2 RX5 wsX5_isOut D ca A := ⟨B.exec, B.bytes, hml, findClass_of_methodNamed B.named, atoms_spec (ws := wsX5_isOut) B.pre, hK, hA⟩
  have hr := B.returns
  have hlocks := B.notSynchronized
  have hS : va_S A s.heap s.heap [] := va_S.rf
  have hl := kh_entry ([.ref (ad 15 0), .int x1]) (n := 2) (kh_ac rfl (kh_ac rfl kh_an)) (Nat.le_of_ble_eq_true rfl)
  rw [lg_entry_eq]
  generalize (lg_sl ([.ref (ad 15 0), .int x1]) ++ List.replicate (2 - (lg_sl ([.ref (ad 15 0), .int x1])).length) Slot.unset).toArray = ls at hl ⊢
  have hl : kh_lv ls 2 [(0, .ref (ad 15 0)), (1, .int x1)] := hl
  have k_34 := C.2.2.2.2.1 (.fieldLink RX5 34 "KeylessHallModel" "prop" "[I") (by decide +kernel)
  have k_109 := C.2.2.2.2.1 (.fieldLink RX5 109 "KeylessHallModel" "broken" "I") (by decide +kernel)
  have hF := hF0
  unfold f_X5_isOut at hF
  have wL32 : ∀ (t0_32 : Int32) (H : Heap) (locs : List Loc) (ls : Array Slot), f_X5_isOut_L32 ρ t0_32 = some q0 → kh_w D ca A ad ρ H → va_S A s.heap H locs → kh_lv ls 2 [] → W p l e (headSpec wsX5_isOut ({ frames := 0, cells := 0, slots := 0, locals := 0 } : Room)).room s m ([.ref (ad 15 0), .int x1]).toArray below meth c H locs 0 0 (MQ below (kh_Qi D ca A ad (kh_pu (f_X5_isOut ρ x1) ρ)) ([.ref (ad 15 0), .int x1]).toArray s 0 0 A) (F0 m 32 ls [.int t0_32]) := by
    intro t0_32 H locs ls hF hw hS hl
    unfold f_X5_isOut_L32 at hF
    obtain ⟨g_1, hF⟩ := kh_gd_ok hF
    exact W.zret (v := t0_32) (ty := .boolean) C.1 C.2.1 hr (kh_b_ok g_1).1 (fun t ht hW => ⟨⟨t0_32, ρ, rfl, kh_mp (hF0.trans hF.symm), kh_bk ht hw⟩, hS.F ht⟩) hS.2.2 dX5_isOut_32
  have wL31 : ∀ (H : Heap) (locs : List Loc) (ls : Array Slot), f_X5_isOut_L31 ρ = some q0 → kh_w D ca A ad ρ H → va_S A s.heap H locs → kh_lv ls 2 [] → W p l e (headSpec wsX5_isOut ({ frames := 0, cells := 0, slots := 0, locals := 0 } : Room)).room s m ([.ref (ad 15 0), .int x1]).toArray below meth c H locs 0 0 (MQ below (kh_Qi D ca A ad (kh_pu (f_X5_isOut ρ x1) ρ)) ([.ref (ad 15 0), .int x1]).toArray s 0 0 A) (F0 m 31 ls []) := by
    intro  H locs ls hF hw hS hl
    unfold f_X5_isOut_L31 at hF
    refine lv_iconst (v := (0 : Int32)) C.1 C.2.1 dX5_isOut_31 (by decide) ?_
    exact wL32 (0 : Int32) _ _ _ hF hw hS (kh_sub hl [] rfl)
  refine lv_aload_n C.1 C.2.1 dX5_isOut_0 rfl (kh_at hl 0 rfl) ?_
  refine kh_get C hw 15 12 rfl (kh_z15 ρ) kh_kd15 (Cn := RX5) (T := TX5) (N := 33) rfl (Nat.le_of_ble_eq_true rfl) k_34 (kf_15_12 ad ρ 0) dX5_isOut_1 ?_
  refine lv_iload_n C.1 C.2.1 dX5_isOut_4 rfl (kh_at hl 1 rfl) ?_
  obtain ⟨g_2, hF⟩ := kh_gd_ok hF
  refine kh_iald C hw 32 rfl (kh_z32 ρ) kh_kd32 g_2 dX5_isOut_5 ?_
  refine lv_iconst (v := (-1 : Int32)) C.1 C.2.1 dX5_isOut_6 (by decide) ?_
  refine lv_icmp_eq (tgt := 31) C.1 C.2.1 dX5_isOut_7 (by decide) (fun c_3 => ?_) (fun c_3 => ?_)
  · have hF := kh_ift hF c_3
    exact wL31  _ _ _ hF hw hS (kh_sub hl [] rfl)
  · have hF := kh_iff hF c_3
    refine lv_aload_n C.1 C.2.1 dX5_isOut_10 rfl (kh_at hl 0 rfl) ?_
    refine kh_get C hw 15 2 rfl (kh_z15 ρ) kh_kd15 (Cn := RX5) (T := TX5) (N := 33) rfl (Nat.le_of_ble_eq_true rfl) k_109 (kf_15_2 ad ρ 0) dX5_isOut_11 ?_
    refine lv_aload_n C.1 C.2.1 dX5_isOut_14 rfl (kh_at hl 0 rfl) ?_
    refine kh_get C hw 15 12 rfl (kh_z15 ρ) kh_kd15 (Cn := RX5) (T := TX5) (N := 33) rfl (Nat.le_of_ble_eq_true rfl) k_34 (kf_15_12 ad ρ 0) dX5_isOut_15 ?_
    refine lv_iload_n C.1 C.2.1 dX5_isOut_18 rfl (kh_at hl 1 rfl) ?_
    refine kh_iald C hw 32 rfl (kh_z32 ρ) kh_kd32 g_2 dX5_isOut_19 ?_
    refine lv_ishr C.1 C.2.1 dX5_isOut_20 ?_
    refine lv_iconst (v := (1 : Int32)) C.1 C.2.1 dX5_isOut_21 (by decide) ?_
    refine lv_iand C.1 C.2.1 dX5_isOut_22 ?_
    refine lv_iconst (v := (1 : Int32)) C.1 C.2.1 dX5_isOut_23 (by decide) ?_
    refine lv_icmp_ne (tgt := 31) C.1 C.2.1 dX5_isOut_24 (by decide) (fun c_4 => ?_) (fun c_4 => ?_)
    · have hF := kh_iff hF c_4
      exact wL31  _ _ _ hF hw hS (kh_sub hl [] rfl)
    · have hF := kh_ift hF c_4
      refine lv_iconst (v := (1 : Int32)) C.1 C.2.1 dX5_isOut_27 (by decide) ?_
      refine lv_goto (tgt := 32) C.1 C.2.1 dX5_isOut_28 (by decide) ?_
      exact wL32 (1 : Int32) _ _ _ hF hw hS (kh_sub hl [] rfl)

def f_X5_hadOf_L82 (ρ : kh_S) (x3_82 : Int32) : Option (Int32) := some x3_82
def f_X5_hadOf_L79 (ρ : kh_S) (x1_c5 : Int32) (x3_79 : Int32) (x4_79 : Int32) : Option ((Int32 × Int32) ⊕ (Int32)) := some (.inl (x3_79, x4_79))
def f_X5_hadOf_L71 (ρ : kh_S) (x1_c5 : Int32) (x4_c20 : Int32) (x5_71 : Int32) (t0_71 : Int32) (t1_71 : Int32) : Option ((Int32 × Int32) ⊕ (Int32)) := some (.inl (t0_71 ||| t1_71, x5_71 + (1 : Int32)))
def f_X5_hadOf_L70 (ρ : kh_S) (x1_c5 : Int32) (x4_c20 : Int32) (x5_70 : Int32) (t0_70 : Int32) : Option ((Int32 × Int32) ⊕ (Int32)) := f_X5_hadOf_L71 ρ x1_c5 x4_c20 x5_70 t0_70 (0 : Int32)
def f_X5_hadOf_B20 (ρ : kh_S) (x1_c5 : Int32) (x4_c20 : Int32) (y3_20 : Int32) (y5_20 : Int32) : Option ((Int32 × Int32) ⊕ (Int32)) := kh_gd (kh_in x1_c5 4) (if (((8 : Int32) * x1_c5) + (ρ 25 0 0 x1_c5.toNatClampNeg)) ≤ y5_20 then some (.inr y3_20) else kh_bd (f_X5_isOut ρ y5_20) (fun r_3 => if r_3 = 0 then kh_gd (kh_in y5_20 32) (if ((ρ 30 0 0 y5_20.toNatClampNeg) &&& (y3_20 ^^^ (-1 : Int32))) = 0 then f_X5_hadOf_L71 ρ x1_c5 x4_c20 y5_20 y3_20 (ρ 31 0 0 y5_20.toNatClampNeg) else f_X5_hadOf_L70 ρ x1_c5 x4_c20 y5_20 y3_20) else f_X5_hadOf_L70 ρ x1_c5 x4_c20 y5_20 y3_20))
def f_X5_hadOf_A20 (ρ : kh_S) (x1_c5 : Int32) (x4_c20 : Int32) : (Int32) → Option ((Int32 × Int32) ⊕ (Int32)) := (fun u : Int32 => f_X5_hadOf_L79 ρ x1_c5 u x4_c20)
def f_X5_hadOf_B5 (ρ : kh_S) (x1_c5 : Int32) (y3_5 : Int32) (y4_5 : Int32) : Option ((Int32 × Int32) ⊕ (Int32)) := if y3_5 = y4_5 then some (.inr y3_5) else kh_bd (kh_lp (fun a : Int32 × Int32 => f_X5_hadOf_B20 ρ x1_c5 y3_5 a.1 a.2) 9999 (y3_5, (8 : Int32) * x1_c5)) (f_X5_hadOf_A20 ρ x1_c5 y3_5)
def f_X5_hadOf_A5 (ρ : kh_S) (x1_c5 : Int32) : (Int32) → Option (Int32) := (fun u : Int32 => f_X5_hadOf_L82 ρ u)
def f_X5_hadOf (ρ : kh_S) (x1 : Int32) (x2 : Int32) : Option (Int32) := kh_bd (kh_lp (fun a : Int32 × Int32 => f_X5_hadOf_B5 ρ x1 a.1 a.2) 9999 (x2, (-1 : Int32))) (f_X5_hadOf_A5 ρ x1)
set_option maxHeartbeats 4000000 in
set_option maxRecDepth 100000 in
theorem c_X5_hadOf (l : Launch) (D : va_G) (ca : Nat → ClassId) (A : Nat → Prop) (ad : Nat → Nat → Nat) (ρ : kh_S) (x1 : Int32) (x2 : Int32) {q0 : Int32} (hF0 : f_X5_hadOf ρ x1 x2 = some q0) : Met l yX5_hadOf wsX5_hadOf ({ frames := 1, cells := 0, slots := 0, locals := 21 } : Room) (va_Pc [.ref (ad 15 0), .int x1, .int x2] (kh_I D ca A ad ρ)) (kh_Qi D ca A ad (kh_pu (f_X5_hadOf ρ x1 x2) ρ)) 0 0 A := by
  refine Met.ofW (cc := cX5_hadOf) (maxL := 6) (ret := (some .int)) (by decide) rfl ?_
  intro p e s m args below meth c s₁ B hml hv
  obtain ⟨rfl, hK, hw, hA⟩ := hv
  have C : kh_C p s m ([.ref (ad 15 0), .int x1, .int x2]).toArray c cX5_hadOf 6 RX5 wsX5_hadOf D ca A := ⟨B.exec, B.bytes, hml, findClass_of_methodNamed B.named, atoms_spec (ws := wsX5_hadOf) B.pre, hK, hA⟩
  have hr := B.returns
  have hlocks := B.notSynchronized
  have hS : va_S A s.heap s.heap [] := va_S.rf
  have hl := kh_entry ([.ref (ad 15 0), .int x1, .int x2]) (n := 6) (kh_ac rfl (kh_ac rfl (kh_ac rfl kh_an))) (Nat.le_of_ble_eq_true rfl)
  rw [lg_entry_eq]
  generalize (lg_sl ([.ref (ad 15 0), .int x1, .int x2]) ++ List.replicate (6 - (lg_sl ([.ref (ad 15 0), .int x1, .int x2])).length) Slot.unset).toArray = ls at hl ⊢
  have hl : kh_lv ls 6 [(0, .ref (ad 15 0)), (1, .int x1), (2, .int x2)] := hl
  have k_13 := C.2.2.2.2.1 (.fieldLink RX5 13 "KeylessHallModel" "many" "[I") (by decide +kernel)
  have k_28 := C.2.2.2.2.1 (.fieldLink RX5 28 "KeylessHallModel" "needs" "[I") (by decide +kernel)
  have k_31 := C.2.2.2.2.1 (.fieldLink RX5 31 "KeylessHallModel" "gives" "[I") (by decide +kernel)
  have hF := hF0
  unfold f_X5_hadOf at hF
  have wL82 : ∀ (x3_82 : Int32) (H : Heap) (locs : List Loc) (ls : Array Slot), f_X5_hadOf_L82 ρ x3_82 = some q0 → kh_w D ca A ad ρ H → va_S A s.heap H locs → kh_lv ls 6 [(3, .int x3_82)] → W p l e (headSpec wsX5_hadOf ({ frames := 1, cells := 0, slots := 0, locals := 21 } : Room)).room s m ([.ref (ad 15 0), .int x1, .int x2]).toArray below meth c H locs 0 0 (MQ below (kh_Qi D ca A ad (kh_pu (f_X5_hadOf ρ x1 x2) ρ)) ([.ref (ad 15 0), .int x1, .int x2]).toArray s 0 0 A) (F0 m 82 ls []) := by
    intro x3_82 H locs ls hF hw hS hl
    unfold f_X5_hadOf_L82 at hF
    refine lv_iload_n C.1 C.2.1 dX5_hadOf_82 rfl (kh_at hl 0 rfl) ?_
    exact W.iret (v := x3_82) C.1 C.2.1 hr (fun t ht hW => ⟨⟨x3_82, ρ, rfl, kh_mp (hF0.trans hF.symm), kh_bk ht hw⟩, hS.F ht⟩) hS.2.2 dX5_hadOf_83
  have wB5 : ∀ (x1_c5 : Int32) (b : Int32), f_X5_hadOf_A5 ρ x1_c5 b = some q0 → ∀ (n : Nat) (y3_5 : Int32) (y4_5 : Int32) (H : Heap) (locs : List Loc) (ls : Array Slot), kh_lp (fun a : Int32 × Int32 => f_X5_hadOf_B5 ρ x1_c5 a.1 a.2) n (y3_5, y4_5) = some b → kh_w D ca A ad ρ H → va_S A s.heap H locs → kh_lv ls 6 [(0, .ref (ad 15 0)), (1, .int x1_c5), (3, .int y3_5), (4, .int y4_5)] → W p l e (headSpec wsX5_hadOf ({ frames := 1, cells := 0, slots := 0, locals := 21 } : Room)).room s m ([.ref (ad 15 0), .int x1, .int x2]).toArray below meth c H locs 0 0 (MQ below (kh_Qi D ca A ad (kh_pu (f_X5_hadOf ρ x1 x2) ρ)) ([.ref (ad 15 0), .int x1, .int x2]).toArray s 0 0 A) (F0 m 5 ls []) := by
    intro x1_c5 b hA_5 n
    induction n with
    | zero => intro y3_5 y4_5 H locs ls h9; exact absurd h9 (fun z => nomatch z)
    | succ n ih_5 =>
      intro y3_5 y4_5 H locs ls hb_5 hw hS hl
      obtain ⟨q_5, hF, hb_5⟩ := kh_lp_ok hb_5
      have hF : f_X5_hadOf_B5 ρ x1_c5 y3_5 y4_5 = some q_5 := hF
      have wL79 : ∀ (x3_79 : Int32) (x4_79 : Int32) (H : Heap) (locs : List Loc) (ls : Array Slot), f_X5_hadOf_L79 ρ x1_c5 x3_79 x4_79 = some q_5 → kh_w D ca A ad ρ H → va_S A s.heap H locs → kh_lv ls 6 [(0, .ref (ad 15 0)), (1, .int x1_c5), (3, .int x3_79), (4, .int x4_79)] → W p l e (headSpec wsX5_hadOf ({ frames := 1, cells := 0, slots := 0, locals := 21 } : Room)).room s m ([.ref (ad 15 0), .int x1, .int x2]).toArray below meth c H locs 0 0 (MQ below (kh_Qi D ca A ad (kh_pu (f_X5_hadOf ρ x1 x2) ρ)) ([.ref (ad 15 0), .int x1, .int x2]).toArray s 0 0 A) (F0 m 79 ls []) := by
        intro x3_79 x4_79 H locs ls hF hw hS hl
        unfold f_X5_hadOf_L79 at hF
        refine lv_goto (tgt := 5) C.1 C.2.1 dX5_hadOf_79 (by decide) ?_
        have e9 := Option.some.inj hF
        rcases hb_5 with ⟨a9, h8, h9⟩ | h8
        · have h7 := Sum.inl.inj (e9.trans h8)
          subst h7
          exact ih_5 _ _ _ _ _ h9 hw hS (kh_sub hl [0, 1, 2, 3] rfl)
        · exact absurd (e9.trans h8) (fun z => nomatch z)
      have wB20 : ∀ (x4_c20 : Int32) (b : Int32), f_X5_hadOf_A20 ρ x1_c5 x4_c20 b = some q_5 → ∀ (n : Nat) (y3_20 : Int32) (y5_20 : Int32) (H : Heap) (locs : List Loc) (ls : Array Slot), kh_lp (fun a : Int32 × Int32 => f_X5_hadOf_B20 ρ x1_c5 x4_c20 a.1 a.2) n (y3_20, y5_20) = some b → kh_w D ca A ad ρ H → va_S A s.heap H locs → kh_lv ls 6 [(0, .ref (ad 15 0)), (1, .int x1_c5), (3, .int y3_20), (4, .int x4_c20), (5, .int y5_20)] → W p l e (headSpec wsX5_hadOf ({ frames := 1, cells := 0, slots := 0, locals := 21 } : Room)).room s m ([.ref (ad 15 0), .int x1, .int x2]).toArray below meth c H locs 0 0 (MQ below (kh_Qi D ca A ad (kh_pu (f_X5_hadOf ρ x1 x2) ρ)) ([.ref (ad 15 0), .int x1, .int x2]).toArray s 0 0 A) (F0 m 20 ls []) := by
        intro x4_c20 b hA_20 n
        induction n with
        | zero => intro y3_20 y5_20 H locs ls h9; exact absurd h9 (fun z => nomatch z)
        | succ n ih_20 =>
          intro y3_20 y5_20 H locs ls hb_20 hw hS hl
          obtain ⟨q_20, hF, hb_20⟩ := kh_lp_ok hb_20
          have hF : f_X5_hadOf_B20 ρ x1_c5 x4_c20 y3_20 y5_20 = some q_20 := hF
          have wL71 : ∀ (x5_71 : Int32) (t0_71 : Int32) (t1_71 : Int32) (H : Heap) (locs : List Loc) (ls : Array Slot), f_X5_hadOf_L71 ρ x1_c5 x4_c20 x5_71 t0_71 t1_71 = some q_20 → kh_w D ca A ad ρ H → va_S A s.heap H locs → kh_lv ls 6 [(0, .ref (ad 15 0)), (1, .int x1_c5), (4, .int x4_c20), (5, .int x5_71)] → W p l e (headSpec wsX5_hadOf ({ frames := 1, cells := 0, slots := 0, locals := 21 } : Room)).room s m ([.ref (ad 15 0), .int x1, .int x2]).toArray below meth c H locs 0 0 (MQ below (kh_Qi D ca A ad (kh_pu (f_X5_hadOf ρ x1 x2) ρ)) ([.ref (ad 15 0), .int x1, .int x2]).toArray s 0 0 A) (F0 m 71 ls [.int t1_71, .int t0_71]) := by
            intro x5_71 t0_71 t1_71 H locs ls hF hw hS hl
            unfold f_X5_hadOf_L71 at hF
            refine lv_ior C.1 C.2.1 dX5_hadOf_71 ?_
            refine kh_istore_n (lv' := [(3, .int (t0_71 ||| t1_71)), (0, .ref (ad 15 0)), (1, .int x1_c5), (4, .int x4_c20), (5, .int x5_71)]) C.1 C.2.1 dX5_hadOf_72 rfl hl (by decide) rfl (fun ls hl => ?_)
            refine kh_iinc (v := x5_71 + (1 : Int32)) (lv' := [(5, .int (x5_71 + (1 : Int32))), (3, .int (t0_71 ||| t1_71)), (0, .ref (ad 15 0)), (1, .int x1_c5), (4, .int x4_c20)]) C.1 C.2.1 dX5_hadOf_73 hl (k := 4) rfl (by rfl) (by decide) rfl (fun ls hl => ?_)
            refine lv_goto (tgt := 20) C.1 C.2.1 dX5_hadOf_76 (by decide) ?_
            have e9 := Option.some.inj hF
            rcases hb_20 with ⟨a9, h8, h9⟩ | h8
            · have h7 := Sum.inl.inj (e9.trans h8)
              subst h7
              exact ih_20 _ _ _ _ _ h9 hw hS (kh_sub hl [2, 3, 1, 4, 0] rfl)
            · exact absurd (e9.trans h8) (fun z => nomatch z)
          have wL70 : ∀ (x5_70 : Int32) (t0_70 : Int32) (H : Heap) (locs : List Loc) (ls : Array Slot), f_X5_hadOf_L70 ρ x1_c5 x4_c20 x5_70 t0_70 = some q_20 → kh_w D ca A ad ρ H → va_S A s.heap H locs → kh_lv ls 6 [(0, .ref (ad 15 0)), (1, .int x1_c5), (4, .int x4_c20), (5, .int x5_70)] → W p l e (headSpec wsX5_hadOf ({ frames := 1, cells := 0, slots := 0, locals := 21 } : Room)).room s m ([.ref (ad 15 0), .int x1, .int x2]).toArray below meth c H locs 0 0 (MQ below (kh_Qi D ca A ad (kh_pu (f_X5_hadOf ρ x1 x2) ρ)) ([.ref (ad 15 0), .int x1, .int x2]).toArray s 0 0 A) (F0 m 70 ls [.int t0_70]) := by
            intro x5_70 t0_70 H locs ls hF hw hS hl
            unfold f_X5_hadOf_L70 at hF
            refine lv_iconst (v := (0 : Int32)) C.1 C.2.1 dX5_hadOf_70 (by decide) ?_
            exact wL71 x5_70 t0_70 (0 : Int32) _ _ _ hF hw hS (kh_sub hl [0, 1, 2, 3] rfl)
          unfold f_X5_hadOf_B20 at hF
          refine lv_iload C.1 C.2.1 dX5_hadOf_20 (kh_at hl 4 rfl) ?_
          refine lv_bipush (v := (8 : Int32)) C.1 C.2.1 dX5_hadOf_22 (by decide) ?_
          refine lv_iload_n C.1 C.2.1 dX5_hadOf_24 rfl (kh_at hl 1 rfl) ?_
          refine lv_imul C.1 C.2.1 dX5_hadOf_25 ?_
          refine lv_aload_n C.1 C.2.1 dX5_hadOf_26 rfl (kh_at hl 0 rfl) ?_
          refine kh_get C hw 15 5 rfl (kh_z15 ρ) kh_kd15 (Cn := RX5) (T := TX5) (N := 33) rfl (Nat.le_of_ble_eq_true rfl) k_13 (kf_15_5 ad ρ 0) dX5_hadOf_27 ?_
          refine lv_iload_n C.1 C.2.1 dX5_hadOf_30 rfl (kh_at hl 1 rfl) ?_
          obtain ⟨g_1, hF⟩ := kh_gd_ok hF
          refine kh_iald C hw 25 rfl (kh_z25 ρ) kh_kd25 g_1 dX5_hadOf_31 ?_
          refine lv_iadd C.1 C.2.1 dX5_hadOf_32 ?_
          refine lv_icmp_ge (tgt := 79) C.1 C.2.1 dX5_hadOf_33 (by decide) (fun c_2 => ?_) (fun c_2 => ?_)
          · have hF := kh_ift hF c_2
            have e9 := Option.some.inj hF
            rcases hb_20 with ⟨a9, h8, h9⟩ | h8
            · exact absurd (e9.trans h8) (fun z => nomatch z)
            have h7 := Sum.inr.inj (e9.trans h8)
            have hF := (congrArg (f_X5_hadOf_A20 ρ x1_c5 x4_c20) h7).trans hA_20
            exact wL79 y3_20 x4_c20 _ _ _ hF hw hS (kh_sub hl [0, 1, 2, 3] rfl)
          · have hF := kh_iff hF c_2
            refine lv_iload_n C.1 C.2.1 dX5_hadOf_36 rfl (kh_at hl 2 rfl) ?_
            refine lv_aload_n C.1 C.2.1 dX5_hadOf_37 rfl (kh_at hl 0 rfl) ?_
            refine lv_iload C.1 C.2.1 dX5_hadOf_38 (kh_at hl 4 rfl) ?_
            obtain ⟨r_3, h_3, hF⟩ := kh_bd_ok hF
            refine kh_calli (va_runV (As := [.int y5_20]) (rest := [.int y3_20]) ⟨C.1, C.2.1, C.2.2.1, C.2.2.2.1, C.2.2.2.2.1⟩ (c_X5_isOut l D ca A ad ρ y5_20 h_3) (cwV 1 C.2.2.2.2.1 gX5_hadOf_X5_isOut rfl rfl rfl (by decide +kernel) ⟨Nat.le_of_ble_eq_true rfl, Nat.le_of_ble_eq_true rfl⟩) (kh_preV C hw hS 15 (kh_z15 ρ) kh_kd15 rfl) rfl rfl hl.1.1 rfl (lv_room (kh_sum (kh_ac rfl kh_an) (Nat.le_of_ble_eq_true rfl))) dX5_hadOf_40 ⟨Nat.le_of_ble_eq_true rfl, Nat.le_of_ble_eq_true rfl⟩) hS (kh_mp h_3) (fun H locs hw hS => ?_)
            refine lv_if_ne (tgt := 70) C.1 C.2.1 dX5_hadOf_43 (by decide) (fun c_4 => ?_) (fun c_4 => ?_)
            · have hF := kh_iff hF c_4
              exact wL70 y5_20 y3_20 _ _ _ hF hw hS (kh_sub hl [0, 1, 3, 4] rfl)
            · have hF := kh_ift hF c_4
              refine lv_aload_n C.1 C.2.1 dX5_hadOf_46 rfl (kh_at hl 0 rfl) ?_
              refine kh_get C hw 15 10 rfl (kh_z15 ρ) kh_kd15 (Cn := RX5) (T := TX5) (N := 33) rfl (Nat.le_of_ble_eq_true rfl) k_28 (kf_15_10 ad ρ 0) dX5_hadOf_47 ?_
              refine lv_iload C.1 C.2.1 dX5_hadOf_50 (kh_at hl 4 rfl) ?_
              obtain ⟨g_5, hF⟩ := kh_gd_ok hF
              refine kh_iald C hw 30 rfl (kh_z30 ρ) kh_kd30 g_5 dX5_hadOf_52 ?_
              refine lv_iload_n C.1 C.2.1 dX5_hadOf_53 rfl (kh_at hl 2 rfl) ?_
              refine lv_iconst (v := (-1 : Int32)) C.1 C.2.1 dX5_hadOf_54 (by decide) ?_
              refine lv_ixor C.1 C.2.1 dX5_hadOf_55 ?_
              refine lv_iand C.1 C.2.1 dX5_hadOf_56 ?_
              refine lv_if_ne (tgt := 70) C.1 C.2.1 dX5_hadOf_57 (by decide) (fun c_6 => ?_) (fun c_6 => ?_)
              · have hF := kh_iff hF c_6
                exact wL70 y5_20 y3_20 _ _ _ hF hw hS (kh_sub hl [0, 1, 3, 4] rfl)
              · have hF := kh_ift hF c_6
                refine lv_aload_n C.1 C.2.1 dX5_hadOf_60 rfl (kh_at hl 0 rfl) ?_
                refine kh_get C hw 15 11 rfl (kh_z15 ρ) kh_kd15 (Cn := RX5) (T := TX5) (N := 33) rfl (Nat.le_of_ble_eq_true rfl) k_31 (kf_15_11 ad ρ 0) dX5_hadOf_61 ?_
                refine lv_iload C.1 C.2.1 dX5_hadOf_64 (kh_at hl 4 rfl) ?_
                refine kh_iald C hw 31 rfl (kh_z31 ρ) kh_kd31 g_5 dX5_hadOf_66 ?_
                refine lv_goto (tgt := 71) C.1 C.2.1 dX5_hadOf_67 (by decide) ?_
                exact wL71 y5_20 y3_20 (ρ 31 0 0 y5_20.toNatClampNeg) _ _ _ hF hw hS (kh_sub hl [0, 1, 3, 4] rfl)
      unfold f_X5_hadOf_B5 at hF
      refine lv_iload_n C.1 C.2.1 dX5_hadOf_5 rfl (kh_at hl 2 rfl) ?_
      refine lv_iload C.1 C.2.1 dX5_hadOf_6 (kh_at hl 3 rfl) ?_
      refine lv_icmp_eq (tgt := 82) C.1 C.2.1 dX5_hadOf_8 (by decide) (fun c_7 => ?_) (fun c_7 => ?_)
      · have hF := kh_ift hF c_7
        have e9 := Option.some.inj hF
        rcases hb_5 with ⟨a9, h8, h9⟩ | h8
        · exact absurd (e9.trans h8) (fun z => nomatch z)
        have h7 := Sum.inr.inj (e9.trans h8)
        have hF := (congrArg (f_X5_hadOf_A5 ρ x1_c5) h7).trans hA_5
        exact wL82 y3_5 _ _ _ hF hw hS (kh_sub hl [2] rfl)
      · have hF := kh_iff hF c_7
        refine lv_iload_n C.1 C.2.1 dX5_hadOf_11 rfl (kh_at hl 2 rfl) ?_
        refine kh_istore (lv' := [(4, .int y3_5), (0, .ref (ad 15 0)), (1, .int x1_c5), (3, .int y3_5)]) C.1 C.2.1 dX5_hadOf_12 hl (by decide) rfl (fun ls hl => ?_)
        refine lv_bipush (v := (8 : Int32)) C.1 C.2.1 dX5_hadOf_14 (by decide) ?_
        refine lv_iload_n C.1 C.2.1 dX5_hadOf_16 rfl (kh_at hl 2 rfl) ?_
        refine lv_imul C.1 C.2.1 dX5_hadOf_17 ?_
        refine kh_istore (lv' := [(5, .int ((8 : Int32) * x1_c5)), (4, .int y3_5), (0, .ref (ad 15 0)), (1, .int x1_c5), (3, .int y3_5)]) C.1 C.2.1 dX5_hadOf_18 hl (by decide) rfl (fun ls hl => ?_)
        obtain ⟨b_20, hb_20, hF⟩ := kh_bd_ok hF
        exact wB20 y3_5 b_20 hF _ y3_5 ((8 : Int32) * x1_c5) _ _ _ hb_20 hw hS (kh_sub hl [2, 3, 4, 1, 0] rfl)
  refine lv_iload_n C.1 C.2.1 dX5_hadOf_0 rfl (kh_at hl 2 rfl) ?_
  refine kh_istore_n (lv' := [(3, .int x2), (0, .ref (ad 15 0)), (1, .int x1), (2, .int x2)]) C.1 C.2.1 dX5_hadOf_1 rfl hl (by decide) rfl (fun ls hl => ?_)
  refine lv_iconst (v := (-1 : Int32)) C.1 C.2.1 dX5_hadOf_2 (by decide) ?_
  refine kh_istore (lv' := [(4, .int (-1 : Int32)), (3, .int x2), (0, .ref (ad 15 0)), (1, .int x1), (2, .int x2)]) C.1 C.2.1 dX5_hadOf_3 hl (by decide) rfl (fun ls hl => ?_)
  obtain ⟨b_5, hb_5, hF⟩ := kh_bd_ok hF
  exact wB5 x1 b_5 hF _ x2 (-1 : Int32) _ _ _ hb_5 hw hS (kh_sub hl [2, 3, 1, 0] rfl)

def f_X5_isLeavable_L31 (ρ : kh_S) (t0_31 : Int32) : Option (Int32) := kh_gd (kh_b t0_31) (some t0_31)
def f_X5_isLeavable_L30 (ρ : kh_S) : Option (Int32) := f_X5_isLeavable_L31 ρ (0 : Int32)
def f_X5_isLeavable (ρ : kh_S) (x1 : Int32) : Option (Int32) := kh_gd (kh_in x1 4) (if (ρ 25 0 0 x1.toNatClampNeg) ≤ 0 then f_X5_isLeavable_L30 ρ else kh_bd (f_X5_hadOf ρ x1 (ρ 24 0 0 x1.toNatClampNeg)) (fun r_4 => if (r_4 &&& (1 : Int32)) = (1 : Int32) then f_X5_isLeavable_L31 ρ (1 : Int32) else f_X5_isLeavable_L30 ρ))
set_option maxHeartbeats 4000000 in
set_option maxRecDepth 100000 in
theorem c_X5_isLeavable (l : Launch) (D : va_G) (ca : Nat → ClassId) (A : Nat → Prop) (ad : Nat → Nat → Nat) (ρ : kh_S) (x1 : Int32) {q0 : Int32} (hF0 : f_X5_isLeavable ρ x1 = some q0) : Met l yX5_isLeavable wsX5_isLeavable ({ frames := 2, cells := 0, slots := 0, locals := 46 } : Room) (va_Pc [.ref (ad 15 0), .int x1] (kh_I D ca A ad ρ)) (kh_Qi D ca A ad (kh_pu (f_X5_isLeavable ρ x1) ρ)) 0 0 A := by
  refine Met.ofW (cc := cX5_isLeavable) (maxL := 2) (ret := (some .boolean)) (by decide) rfl ?_
  intro p e s m args below meth c s₁ B hml hv
  obtain ⟨rfl, hK, hw, hA⟩ := hv
  have C : kh_C p s m ([.ref (ad 15 0), .int x1]).toArray c cX5_isLeavable 2 RX5 wsX5_isLeavable D ca A := ⟨B.exec, B.bytes, hml, findClass_of_methodNamed B.named, atoms_spec (ws := wsX5_isLeavable) B.pre, hK, hA⟩
  have hr := B.returns
  have hlocks := B.notSynchronized
  have hS : va_S A s.heap s.heap [] := va_S.rf
  have hl := kh_entry ([.ref (ad 15 0), .int x1]) (n := 2) (kh_ac rfl (kh_ac rfl kh_an)) (Nat.le_of_ble_eq_true rfl)
  rw [lg_entry_eq]
  generalize (lg_sl ([.ref (ad 15 0), .int x1]) ++ List.replicate (2 - (lg_sl ([.ref (ad 15 0), .int x1])).length) Slot.unset).toArray = ls at hl ⊢
  have hl : kh_lv ls 2 [(0, .ref (ad 15 0)), (1, .int x1)] := hl
  have k_13 := C.2.2.2.2.1 (.fieldLink RX5 13 "KeylessHallModel" "many" "[I") (by decide +kernel)
  have k_7 := C.2.2.2.2.1 (.fieldLink RX5 7 "KeylessHallModel" "first" "[I") (by decide +kernel)
  have hF := hF0
  unfold f_X5_isLeavable at hF
  have wL31 : ∀ (t0_31 : Int32) (H : Heap) (locs : List Loc) (ls : Array Slot), f_X5_isLeavable_L31 ρ t0_31 = some q0 → kh_w D ca A ad ρ H → va_S A s.heap H locs → kh_lv ls 2 [] → W p l e (headSpec wsX5_isLeavable ({ frames := 2, cells := 0, slots := 0, locals := 46 } : Room)).room s m ([.ref (ad 15 0), .int x1]).toArray below meth c H locs 0 0 (MQ below (kh_Qi D ca A ad (kh_pu (f_X5_isLeavable ρ x1) ρ)) ([.ref (ad 15 0), .int x1]).toArray s 0 0 A) (F0 m 31 ls [.int t0_31]) := by
    intro t0_31 H locs ls hF hw hS hl
    unfold f_X5_isLeavable_L31 at hF
    obtain ⟨g_1, hF⟩ := kh_gd_ok hF
    exact W.zret (v := t0_31) (ty := .boolean) C.1 C.2.1 hr (kh_b_ok g_1).1 (fun t ht hW => ⟨⟨t0_31, ρ, rfl, kh_mp (hF0.trans hF.symm), kh_bk ht hw⟩, hS.F ht⟩) hS.2.2 dX5_isLeavable_31
  have wL30 : ∀ (H : Heap) (locs : List Loc) (ls : Array Slot), f_X5_isLeavable_L30 ρ = some q0 → kh_w D ca A ad ρ H → va_S A s.heap H locs → kh_lv ls 2 [] → W p l e (headSpec wsX5_isLeavable ({ frames := 2, cells := 0, slots := 0, locals := 46 } : Room)).room s m ([.ref (ad 15 0), .int x1]).toArray below meth c H locs 0 0 (MQ below (kh_Qi D ca A ad (kh_pu (f_X5_isLeavable ρ x1) ρ)) ([.ref (ad 15 0), .int x1]).toArray s 0 0 A) (F0 m 30 ls []) := by
    intro  H locs ls hF hw hS hl
    unfold f_X5_isLeavable_L30 at hF
    refine lv_iconst (v := (0 : Int32)) C.1 C.2.1 dX5_isLeavable_30 (by decide) ?_
    exact wL31 (0 : Int32) _ _ _ hF hw hS (kh_sub hl [] rfl)
  refine lv_aload_n C.1 C.2.1 dX5_isLeavable_0 rfl (kh_at hl 0 rfl) ?_
  refine kh_get C hw 15 5 rfl (kh_z15 ρ) kh_kd15 (Cn := RX5) (T := TX5) (N := 33) rfl (Nat.le_of_ble_eq_true rfl) k_13 (kf_15_5 ad ρ 0) dX5_isLeavable_1 ?_
  refine lv_iload_n C.1 C.2.1 dX5_isLeavable_4 rfl (kh_at hl 1 rfl) ?_
  obtain ⟨g_2, hF⟩ := kh_gd_ok hF
  refine kh_iald C hw 25 rfl (kh_z25 ρ) kh_kd25 g_2 dX5_isLeavable_5 ?_
  refine lv_if_le (tgt := 30) C.1 C.2.1 dX5_isLeavable_6 (by decide) (fun c_3 => ?_) (fun c_3 => ?_)
  · have hF := kh_ift hF c_3
    exact wL30  _ _ _ hF hw hS (kh_sub hl [] rfl)
  · have hF := kh_iff hF c_3
    refine lv_aload_n C.1 C.2.1 dX5_isLeavable_9 rfl (kh_at hl 0 rfl) ?_
    refine lv_iload_n C.1 C.2.1 dX5_isLeavable_10 rfl (kh_at hl 1 rfl) ?_
    refine lv_aload_n C.1 C.2.1 dX5_isLeavable_11 rfl (kh_at hl 0 rfl) ?_
    refine kh_get C hw 15 4 rfl (kh_z15 ρ) kh_kd15 (Cn := RX5) (T := TX5) (N := 33) rfl (Nat.le_of_ble_eq_true rfl) k_7 (kf_15_4 ad ρ 0) dX5_isLeavable_12 ?_
    refine lv_iload_n C.1 C.2.1 dX5_isLeavable_15 rfl (kh_at hl 1 rfl) ?_
    refine kh_iald C hw 24 rfl (kh_z24 ρ) kh_kd24 g_2 dX5_isLeavable_16 ?_
    obtain ⟨r_4, h_4, hF⟩ := kh_bd_ok hF
    refine kh_calli (va_runV (As := [.int x1, .int (ρ 24 0 0 x1.toNatClampNeg)]) (rest := []) ⟨C.1, C.2.1, C.2.2.1, C.2.2.2.1, C.2.2.2.2.1⟩ (c_X5_hadOf l D ca A ad ρ x1 (ρ 24 0 0 x1.toNatClampNeg) h_4) (cwV 2 C.2.2.2.2.1 gX5_isLeavable_X5_hadOf rfl rfl rfl (by decide +kernel) ⟨Nat.le_of_ble_eq_true rfl, Nat.le_of_ble_eq_true rfl⟩) (kh_preV C hw hS 15 (kh_z15 ρ) kh_kd15 rfl) rfl rfl hl.1.1 rfl (lv_room (kh_sum kh_an (Nat.le_of_ble_eq_true rfl))) dX5_isLeavable_17 ⟨Nat.le_of_ble_eq_true rfl, Nat.le_of_ble_eq_true rfl⟩) hS (kh_mp h_4) (fun H locs hw hS => ?_)
    refine lv_iconst (v := (1 : Int32)) C.1 C.2.1 dX5_isLeavable_20 (by decide) ?_
    refine lv_iand C.1 C.2.1 dX5_isLeavable_21 ?_
    refine lv_iconst (v := (1 : Int32)) C.1 C.2.1 dX5_isLeavable_22 (by decide) ?_
    refine lv_icmp_ne (tgt := 30) C.1 C.2.1 dX5_isLeavable_23 (by decide) (fun c_5 => ?_) (fun c_5 => ?_)
    · have hF := kh_iff hF c_5
      exact wL30  _ _ _ hF hw hS (kh_sub hl [] rfl)
    · have hF := kh_ift hF c_5
      refine lv_iconst (v := (1 : Int32)) C.1 C.2.1 dX5_isLeavable_26 (by decide) ?_
      refine lv_goto (tgt := 31) C.1 C.2.1 dX5_isLeavable_27 (by decide) ?_
      exact wL31 (1 : Int32) _ _ _ hF hw hS (kh_sub hl [] rfl)

def f_X5_gapOf_L37 (ρ : kh_S) (x2_37 : Int32) : Option (Int32) := some x2_37
def f_X5_gapOf_B7 (ρ : kh_S) (x1_c7 : Int32) (y2_7 : Int32) (y3_7 : Int32) : Option ((Int32 × Int32) ⊕ (Int32)) := kh_gd (kh_in x1_c7 4) (if (((8 : Int32) * x1_c7) + (ρ 25 0 0 x1_c7.toNatClampNeg)) ≤ y3_7 then some (.inr y2_7) else kh_gd (kh_in y3_7 32) (some (.inl (y2_7 + (ρ 33 0 0 y3_7.toNatClampNeg), y3_7 + (1 : Int32)))))
def f_X5_gapOf_A7 (ρ : kh_S) (x1_c7 : Int32) : (Int32) → Option (Int32) := (fun u : Int32 => f_X5_gapOf_L37 ρ u)
def f_X5_gapOf (ρ : kh_S) (x1 : Int32) : Option (Int32) := kh_bd (kh_lp (fun a : Int32 × Int32 => f_X5_gapOf_B7 ρ x1 a.1 a.2) 9999 ((5 : Int32), (8 : Int32) * x1)) (f_X5_gapOf_A7 ρ x1)
set_option maxHeartbeats 4000000 in
set_option maxRecDepth 100000 in
theorem c_X5_gapOf (l : Launch) (D : va_G) (ca : Nat → ClassId) (A : Nat → Prop) (ad : Nat → Nat → Nat) (ρ : kh_S) (x1 : Int32) {q0 : Int32} (hF0 : f_X5_gapOf ρ x1 = some q0) : Met l yX5_gapOf wsX5_gapOf ({ frames := 0, cells := 0, slots := 0, locals := 0 } : Room) (va_Pc [.ref (ad 15 0), .int x1] (kh_I D ca A ad ρ)) (kh_Qi D ca A ad (kh_pu (f_X5_gapOf ρ x1) ρ)) 0 0 A := by
  refine Met.ofW (cc := cX5_gapOf) (maxL := 4) (ret := (some .int)) (by decide) rfl ?_
  intro p e s m args below meth c s₁ B hml hv
  obtain ⟨rfl, hK, hw, hA⟩ := hv
  have C : kh_C p s m ([.ref (ad 15 0), .int x1]).toArray c cX5_gapOf 4 RX5 wsX5_gapOf D ca A := ⟨B.exec, B.bytes, hml, findClass_of_methodNamed B.named, atoms_spec (ws := wsX5_gapOf) B.pre, hK, hA⟩
  have hr := B.returns
  have hlocks := B.notSynchronized
  have hS : va_S A s.heap s.heap [] := va_S.rf
  have hl := kh_entry ([.ref (ad 15 0), .int x1]) (n := 4) (kh_ac rfl (kh_ac rfl kh_an)) (Nat.le_of_ble_eq_true rfl)
  rw [lg_entry_eq]
  generalize (lg_sl ([.ref (ad 15 0), .int x1]) ++ List.replicate (4 - (lg_sl ([.ref (ad 15 0), .int x1])).length) Slot.unset).toArray = ls at hl ⊢
  have hl : kh_lv ls 4 [(0, .ref (ad 15 0)), (1, .int x1)] := hl
  have k_13 := C.2.2.2.2.1 (.fieldLink RX5 13 "KeylessHallModel" "many" "[I") (by decide +kernel)
  have k_37 := C.2.2.2.2.1 (.fieldLink RX5 37 "KeylessHallModel" "takes" "[I") (by decide +kernel)
  have hF := hF0
  unfold f_X5_gapOf at hF
  have wL37 : ∀ (x2_37 : Int32) (H : Heap) (locs : List Loc) (ls : Array Slot), f_X5_gapOf_L37 ρ x2_37 = some q0 → kh_w D ca A ad ρ H → va_S A s.heap H locs → kh_lv ls 4 [(2, .int x2_37)] → W p l e (headSpec wsX5_gapOf ({ frames := 0, cells := 0, slots := 0, locals := 0 } : Room)).room s m ([.ref (ad 15 0), .int x1]).toArray below meth c H locs 0 0 (MQ below (kh_Qi D ca A ad (kh_pu (f_X5_gapOf ρ x1) ρ)) ([.ref (ad 15 0), .int x1]).toArray s 0 0 A) (F0 m 37 ls []) := by
    intro x2_37 H locs ls hF hw hS hl
    unfold f_X5_gapOf_L37 at hF
    refine lv_iload_n C.1 C.2.1 dX5_gapOf_37 rfl (kh_at hl 0 rfl) ?_
    exact W.iret (v := x2_37) C.1 C.2.1 hr (fun t ht hW => ⟨⟨x2_37, ρ, rfl, kh_mp (hF0.trans hF.symm), kh_bk ht hw⟩, hS.F ht⟩) hS.2.2 dX5_gapOf_38
  have wB7 : ∀ (x1_c7 : Int32) (b : Int32), f_X5_gapOf_A7 ρ x1_c7 b = some q0 → ∀ (n : Nat) (y2_7 : Int32) (y3_7 : Int32) (H : Heap) (locs : List Loc) (ls : Array Slot), kh_lp (fun a : Int32 × Int32 => f_X5_gapOf_B7 ρ x1_c7 a.1 a.2) n (y2_7, y3_7) = some b → kh_w D ca A ad ρ H → va_S A s.heap H locs → kh_lv ls 4 [(0, .ref (ad 15 0)), (1, .int x1_c7), (2, .int y2_7), (3, .int y3_7)] → W p l e (headSpec wsX5_gapOf ({ frames := 0, cells := 0, slots := 0, locals := 0 } : Room)).room s m ([.ref (ad 15 0), .int x1]).toArray below meth c H locs 0 0 (MQ below (kh_Qi D ca A ad (kh_pu (f_X5_gapOf ρ x1) ρ)) ([.ref (ad 15 0), .int x1]).toArray s 0 0 A) (F0 m 7 ls []) := by
    intro x1_c7 b hA_7 n
    induction n with
    | zero => intro y2_7 y3_7 H locs ls h9; exact absurd h9 (fun z => nomatch z)
    | succ n ih_7 =>
      intro y2_7 y3_7 H locs ls hb_7 hw hS hl
      obtain ⟨q_7, hF, hb_7⟩ := kh_lp_ok hb_7
      have hF : f_X5_gapOf_B7 ρ x1_c7 y2_7 y3_7 = some q_7 := hF
      unfold f_X5_gapOf_B7 at hF
      refine lv_iload_n C.1 C.2.1 dX5_gapOf_7 rfl (kh_at hl 3 rfl) ?_
      refine lv_bipush (v := (8 : Int32)) C.1 C.2.1 dX5_gapOf_8 (by decide) ?_
      refine lv_iload_n C.1 C.2.1 dX5_gapOf_10 rfl (kh_at hl 1 rfl) ?_
      refine lv_imul C.1 C.2.1 dX5_gapOf_11 ?_
      refine lv_aload_n C.1 C.2.1 dX5_gapOf_12 rfl (kh_at hl 0 rfl) ?_
      refine kh_get C hw 15 5 rfl (kh_z15 ρ) kh_kd15 (Cn := RX5) (T := TX5) (N := 33) rfl (Nat.le_of_ble_eq_true rfl) k_13 (kf_15_5 ad ρ 0) dX5_gapOf_13 ?_
      refine lv_iload_n C.1 C.2.1 dX5_gapOf_16 rfl (kh_at hl 1 rfl) ?_
      obtain ⟨g_1, hF⟩ := kh_gd_ok hF
      refine kh_iald C hw 25 rfl (kh_z25 ρ) kh_kd25 g_1 dX5_gapOf_17 ?_
      refine lv_iadd C.1 C.2.1 dX5_gapOf_18 ?_
      refine lv_icmp_ge (tgt := 37) C.1 C.2.1 dX5_gapOf_19 (by decide) (fun c_2 => ?_) (fun c_2 => ?_)
      · have hF := kh_ift hF c_2
        have e9 := Option.some.inj hF
        rcases hb_7 with ⟨a9, h8, h9⟩ | h8
        · exact absurd (e9.trans h8) (fun z => nomatch z)
        have h7 := Sum.inr.inj (e9.trans h8)
        have hF := (congrArg (f_X5_gapOf_A7 ρ x1_c7) h7).trans hA_7
        exact wL37 y2_7 _ _ _ hF hw hS (kh_sub hl [2] rfl)
      · have hF := kh_iff hF c_2
        refine lv_iload_n C.1 C.2.1 dX5_gapOf_22 rfl (kh_at hl 2 rfl) ?_
        refine lv_aload_n C.1 C.2.1 dX5_gapOf_23 rfl (kh_at hl 0 rfl) ?_
        refine kh_get C hw 15 13 rfl (kh_z15 ρ) kh_kd15 (Cn := RX5) (T := TX5) (N := 33) rfl (Nat.le_of_ble_eq_true rfl) k_37 (kf_15_13 ad ρ 0) dX5_gapOf_24 ?_
        refine lv_iload_n C.1 C.2.1 dX5_gapOf_27 rfl (kh_at hl 3 rfl) ?_
        obtain ⟨g_3, hF⟩ := kh_gd_ok hF
        refine kh_iald C hw 33 rfl (kh_z33 ρ) kh_kd33 g_3 dX5_gapOf_28 ?_
        refine lv_iadd C.1 C.2.1 dX5_gapOf_29 ?_
        refine kh_istore_n (lv' := [(2, .int (y2_7 + (ρ 33 0 0 y3_7.toNatClampNeg))), (0, .ref (ad 15 0)), (1, .int x1_c7), (3, .int y3_7)]) C.1 C.2.1 dX5_gapOf_30 rfl hl (by decide) rfl (fun ls hl => ?_)
        refine kh_iinc (v := y3_7 + (1 : Int32)) (lv' := [(3, .int (y3_7 + (1 : Int32))), (2, .int (y2_7 + (ρ 33 0 0 y3_7.toNatClampNeg))), (0, .ref (ad 15 0)), (1, .int x1_c7)]) C.1 C.2.1 dX5_gapOf_31 hl (k := 3) rfl (by rfl) (by decide) rfl (fun ls hl => ?_)
        refine lv_goto (tgt := 7) C.1 C.2.1 dX5_gapOf_34 (by decide) ?_
        have e9 := Option.some.inj hF
        rcases hb_7 with ⟨a9, h8, h9⟩ | h8
        · have h7 := Sum.inl.inj (e9.trans h8)
          subst h7
          exact ih_7 _ _ _ _ _ h9 hw hS (kh_sub hl [2, 3, 1, 0] rfl)
        · exact absurd (e9.trans h8) (fun z => nomatch z)
  refine lv_iconst (v := (5 : Int32)) C.1 C.2.1 dX5_gapOf_0 (by decide) ?_
  refine kh_istore_n (lv' := [(2, .int (5 : Int32)), (0, .ref (ad 15 0)), (1, .int x1)]) C.1 C.2.1 dX5_gapOf_1 rfl hl (by decide) rfl (fun ls hl => ?_)
  refine lv_bipush (v := (8 : Int32)) C.1 C.2.1 dX5_gapOf_2 (by decide) ?_
  refine lv_iload_n C.1 C.2.1 dX5_gapOf_4 rfl (kh_at hl 2 rfl) ?_
  refine lv_imul C.1 C.2.1 dX5_gapOf_5 ?_
  refine kh_istore_n (lv' := [(3, .int ((8 : Int32) * x1)), (2, .int (5 : Int32)), (0, .ref (ad 15 0)), (1, .int x1)]) C.1 C.2.1 dX5_gapOf_6 rfl hl (by decide) rfl (fun ls hl => ?_)
  obtain ⟨b_7, hb_7, hF⟩ := kh_bd_ok hF
  exact wB7 x1 b_7 hF _ (5 : Int32) ((8 : Int32) * x1) _ _ _ hb_7 hw hS (kh_sub hl [2, 3, 1, 0] rfl)

def f_X5_room_L29 (ρ_29 : kh_S) (x1_29 : Int32) (t1_29 : Int32) : Option (Int32 × kh_S) := kh_bd2 (f_X5_refused ρ_29 t1_29) (fun r_1 ρ_1 => if r_1 = 0 then kh_gd (kh_in (ρ_1 15 3 0 0) 4) (kh_gd (kh_in ((kh_up ρ_1 24 0 0 (ρ_1 15 3 0 0).toNatClampNeg x1_29) 15 3 0 0) 4) (some (((kh_up (kh_up (kh_up ρ_1 24 0 0 (ρ_1 15 3 0 0).toNatClampNeg x1_29) 29 0 0 ((kh_up ρ_1 24 0 0 (ρ_1 15 3 0 0).toNatClampNeg x1_29) 15 3 0 0).toNatClampNeg (-1 : Int32)) 15 3 0 0 (((kh_up (kh_up ρ_1 24 0 0 (ρ_1 15 3 0 0).toNatClampNeg x1_29) 29 0 0 ((kh_up ρ_1 24 0 0 (ρ_1 15 3 0 0).toNatClampNeg x1_29) 15 3 0 0).toNatClampNeg (-1 : Int32)) 15 3 0 0) + (1 : Int32))) 15 3 0 0) - (1 : Int32), kh_up (kh_up (kh_up ρ_1 24 0 0 (ρ_1 15 3 0 0).toNatClampNeg x1_29) 29 0 0 ((kh_up ρ_1 24 0 0 (ρ_1 15 3 0 0).toNatClampNeg x1_29) 15 3 0 0).toNatClampNeg (-1 : Int32)) 15 3 0 0 (((kh_up (kh_up ρ_1 24 0 0 (ρ_1 15 3 0 0).toNatClampNeg x1_29) 29 0 0 ((kh_up ρ_1 24 0 0 (ρ_1 15 3 0 0).toNatClampNeg x1_29) 15 3 0 0).toNatClampNeg (-1 : Int32)) 15 3 0 0) + (1 : Int32))))) else some ((0 : Int32), ρ_1))
def f_X5_room (ρ : kh_S) (x1 : Int32) : Option (Int32 × kh_S) := kh_bd (f_X5_in ρ x1 (0 : Int32) (4095 : Int32)) (fun r_5 => if r_5 = 0 then f_X5_room_L29 ρ x1 (1 : Int32) else if (ρ 15 3 0 0) = (4 : Int32) then f_X5_room_L29 ρ x1 (2 : Int32) else f_X5_room_L29 ρ x1 (0 : Int32))
set_option maxHeartbeats 4000000 in
set_option maxRecDepth 100000 in
theorem c_X5_room (l : Launch) (D : va_G) (ca : Nat → ClassId) (A : Nat → Prop) (ad : Nat → Nat → Nat) (ρ : kh_S) (x1 : Int32) {q0 : Int32 × kh_S} (hF0 : f_X5_room ρ x1 = some q0) : Met l yX5_room wsX5_room ({ frames := 1, cells := 0, slots := 0, locals := 22 } : Room) (va_Pc [.ref (ad 15 0), .int x1] (kh_I D ca A ad ρ)) (kh_Qi D ca A ad (f_X5_room ρ x1)) 0 0 A := by
  refine Met.ofW (cc := cX5_room) (maxL := 2) (ret := (some .int)) (by decide) rfl ?_
  intro p e s m args below meth c s₁ B hml hv
  obtain ⟨rfl, hK, hw, hA⟩ := hv
  have C : kh_C p s m ([.ref (ad 15 0), .int x1]).toArray c cX5_room 2 RX5 wsX5_room D ca A := ⟨B.exec, B.bytes, hml, findClass_of_methodNamed B.named, atoms_spec (ws := wsX5_room) B.pre, hK, hA⟩
  have hr := B.returns
  have hlocks := B.notSynchronized
  have hS : va_S A s.heap s.heap [] := va_S.rf
  have hl := kh_entry ([.ref (ad 15 0), .int x1]) (n := 2) (kh_ac rfl (kh_ac rfl kh_an)) (Nat.le_of_ble_eq_true rfl)
  rw [lg_entry_eq]
  generalize (lg_sl ([.ref (ad 15 0), .int x1]) ++ List.replicate (2 - (lg_sl ([.ref (ad 15 0), .int x1])).length) Slot.unset).toArray = ls at hl ⊢
  have hl : kh_lv ls 2 [(0, .ref (ad 15 0)), (1, .int x1)] := hl
  have k_7 := C.2.2.2.2.1 (.fieldLink RX5 7 "KeylessHallModel" "first" "[I") (by decide +kernel)
  have k_96 := C.2.2.2.2.1 (.fieldLink RX5 96 "KeylessHallModel" "rooms" "I") (by decide +kernel)
  have k_25 := C.2.2.2.2.1 (.fieldLink RX5 25 "KeylessHallModel" "groupIn" "[I") (by decide +kernel)
  have hF := hF0
  unfold f_X5_room at hF
  have wL29 : ∀ (ρ_29 : kh_S) (x1_29 : Int32) (t1_29 : Int32) (H : Heap) (locs : List Loc) (ls : Array Slot), f_X5_room_L29 ρ_29 x1_29 t1_29 = some q0 → kh_w D ca A ad ρ_29 H → va_S A s.heap H locs → kh_lv ls 2 [(0, .ref (ad 15 0)), (1, .int x1_29)] → W p l e (headSpec wsX5_room ({ frames := 1, cells := 0, slots := 0, locals := 22 } : Room)).room s m ([.ref (ad 15 0), .int x1]).toArray below meth c H locs 0 0 (MQ below (kh_Qi D ca A ad (f_X5_room ρ x1)) ([.ref (ad 15 0), .int x1]).toArray s 0 0 A) (F0 m 29 ls [.int t1_29, .ref (ad 15 0)]) := by
    intro ρ_29 x1_29 t1_29 H locs ls hF hw hS hl
    unfold f_X5_room_L29 at hF
    obtain ⟨r_1, ρ_1, h_1, hF⟩ := kh_bd2_ok hF
    refine kh_calli (va_runV (As := [.int t1_29]) (rest := []) ⟨C.1, C.2.1, C.2.2.1, C.2.2.2.1, C.2.2.2.2.1⟩ (c_X5_refused l D ca A ad ρ_29 t1_29 h_1) (cwV 1 C.2.2.2.2.1 gX5_room_X5_refused rfl rfl rfl (by decide +kernel) ⟨Nat.le_of_ble_eq_true rfl, Nat.le_of_ble_eq_true rfl⟩) (kh_preV C hw hS 15 (kh_z15 ρ_29) kh_kd15 rfl) rfl rfl hl.1.1 rfl (lv_room (kh_sum kh_an (Nat.le_of_ble_eq_true rfl))) dX5_room_29 ⟨Nat.le_of_ble_eq_true rfl, Nat.le_of_ble_eq_true rfl⟩) hS h_1 (fun H locs hw hS => ?_)
    refine lv_if_eq (tgt := 37) C.1 C.2.1 dX5_room_32 (by decide) (fun c_2 => ?_) (fun c_2 => ?_)
    · have hF := kh_ift hF c_2
      refine lv_aload_n C.1 C.2.1 dX5_room_37 rfl (kh_at hl 0 rfl) ?_
      refine kh_get C hw 15 4 rfl (kh_z15 ρ_1) kh_kd15 (Cn := RX5) (T := TX5) (N := 33) rfl (Nat.le_of_ble_eq_true rfl) k_7 (kf_15_4 ad ρ_1 0) dX5_room_38 ?_
      refine lv_aload_n C.1 C.2.1 dX5_room_41 rfl (kh_at hl 0 rfl) ?_
      refine kh_get C hw 15 3 rfl (kh_z15 ρ_1) kh_kd15 (Cn := RX5) (T := TX5) (N := 33) rfl (Nat.le_of_ble_eq_true rfl) k_96 (kf_15_3 ad ρ_1 0) dX5_room_42 ?_
      refine lv_iload_n C.1 C.2.1 dX5_room_45 rfl (kh_at hl 1 rfl) ?_
      obtain ⟨g_3, hF⟩ := kh_gd_ok hF
      refine kh_iast C hw hS 24 rfl (kh_z24 ρ_1) (by decide) kh_kd24 g_3 dX5_room_46 (fun H locs hw hS => ?_)
      refine lv_aload_n C.1 C.2.1 dX5_room_47 rfl (kh_at hl 0 rfl) ?_
      refine kh_get C hw 15 9 rfl (kh_z15 (kh_up ρ_1 24 0 0 (ρ_1 15 3 0 0).toNatClampNeg x1_29)) kh_kd15 (Cn := RX5) (T := TX5) (N := 33) rfl (Nat.le_of_ble_eq_true rfl) k_25 (kf_15_9 ad (kh_up ρ_1 24 0 0 (ρ_1 15 3 0 0).toNatClampNeg x1_29) 0) dX5_room_48 ?_
      refine lv_aload_n C.1 C.2.1 dX5_room_51 rfl (kh_at hl 0 rfl) ?_
      refine kh_get C hw 15 3 rfl (kh_z15 (kh_up ρ_1 24 0 0 (ρ_1 15 3 0 0).toNatClampNeg x1_29)) kh_kd15 (Cn := RX5) (T := TX5) (N := 33) rfl (Nat.le_of_ble_eq_true rfl) k_96 (kf_15_3 ad (kh_up ρ_1 24 0 0 (ρ_1 15 3 0 0).toNatClampNeg x1_29) 0) dX5_room_52 ?_
      refine lv_iconst (v := (-1 : Int32)) C.1 C.2.1 dX5_room_55 (by decide) ?_
      obtain ⟨g_4, hF⟩ := kh_gd_ok hF
      refine kh_iast C hw hS 29 rfl (kh_z29 (kh_up ρ_1 24 0 0 (ρ_1 15 3 0 0).toNatClampNeg x1_29)) (by decide) kh_kd29 g_4 dX5_room_56 (fun H locs hw hS => ?_)
      refine lv_aload_n C.1 C.2.1 dX5_room_57 rfl (kh_at hl 0 rfl) ?_
      refine lv_dup C.1 C.2.1 dX5_room_58 rfl ?_
      refine kh_get C hw 15 3 rfl (kh_z15 (kh_up (kh_up ρ_1 24 0 0 (ρ_1 15 3 0 0).toNatClampNeg x1_29) 29 0 0 ((kh_up ρ_1 24 0 0 (ρ_1 15 3 0 0).toNatClampNeg x1_29) 15 3 0 0).toNatClampNeg (-1 : Int32))) kh_kd15 (Cn := RX5) (T := TX5) (N := 33) rfl (Nat.le_of_ble_eq_true rfl) k_96 (kf_15_3 ad (kh_up (kh_up ρ_1 24 0 0 (ρ_1 15 3 0 0).toNatClampNeg x1_29) 29 0 0 ((kh_up ρ_1 24 0 0 (ρ_1 15 3 0 0).toNatClampNeg x1_29) 15 3 0 0).toNatClampNeg (-1 : Int32)) 0) dX5_room_59 ?_
      refine lv_iconst (v := (1 : Int32)) C.1 C.2.1 dX5_room_62 (by decide) ?_
      refine lv_iadd C.1 C.2.1 dX5_room_63 ?_
      refine kh_putI C hw hS 15 3 rfl (kh_z15 (kh_up (kh_up ρ_1 24 0 0 (ρ_1 15 3 0 0).toNatClampNeg x1_29) 29 0 0 ((kh_up ρ_1 24 0 0 (ρ_1 15 3 0 0).toNatClampNeg x1_29) 15 3 0 0).toNatClampNeg (-1 : Int32))) kh_kd15 (by decide) (Cn := RX5) (T := TX5) (N := 33) rfl (Nat.le_of_ble_eq_true rfl) (kq_15_3) k_96 rfl (by decide +kernel) dX5_room_64 (fun H locs hw hS => ?_)
      refine lv_aload_n C.1 C.2.1 dX5_room_67 rfl (kh_at hl 0 rfl) ?_
      refine kh_get C hw 15 3 rfl (kh_z15 (kh_up (kh_up (kh_up ρ_1 24 0 0 (ρ_1 15 3 0 0).toNatClampNeg x1_29) 29 0 0 ((kh_up ρ_1 24 0 0 (ρ_1 15 3 0 0).toNatClampNeg x1_29) 15 3 0 0).toNatClampNeg (-1 : Int32)) 15 3 0 0 (((kh_up (kh_up ρ_1 24 0 0 (ρ_1 15 3 0 0).toNatClampNeg x1_29) 29 0 0 ((kh_up ρ_1 24 0 0 (ρ_1 15 3 0 0).toNatClampNeg x1_29) 15 3 0 0).toNatClampNeg (-1 : Int32)) 15 3 0 0) + (1 : Int32)))) kh_kd15 (Cn := RX5) (T := TX5) (N := 33) rfl (Nat.le_of_ble_eq_true rfl) k_96 (kf_15_3 ad (kh_up (kh_up (kh_up ρ_1 24 0 0 (ρ_1 15 3 0 0).toNatClampNeg x1_29) 29 0 0 ((kh_up ρ_1 24 0 0 (ρ_1 15 3 0 0).toNatClampNeg x1_29) 15 3 0 0).toNatClampNeg (-1 : Int32)) 15 3 0 0 (((kh_up (kh_up ρ_1 24 0 0 (ρ_1 15 3 0 0).toNatClampNeg x1_29) 29 0 0 ((kh_up ρ_1 24 0 0 (ρ_1 15 3 0 0).toNatClampNeg x1_29) 15 3 0 0).toNatClampNeg (-1 : Int32)) 15 3 0 0) + (1 : Int32))) 0) dX5_room_68 ?_
      refine lv_iconst (v := (1 : Int32)) C.1 C.2.1 dX5_room_71 (by decide) ?_
      refine lv_isub C.1 C.2.1 dX5_room_72 ?_
      exact W.iret (v := ((kh_up (kh_up (kh_up ρ_1 24 0 0 (ρ_1 15 3 0 0).toNatClampNeg x1_29) 29 0 0 ((kh_up ρ_1 24 0 0 (ρ_1 15 3 0 0).toNatClampNeg x1_29) 15 3 0 0).toNatClampNeg (-1 : Int32)) 15 3 0 0 (((kh_up (kh_up ρ_1 24 0 0 (ρ_1 15 3 0 0).toNatClampNeg x1_29) 29 0 0 ((kh_up ρ_1 24 0 0 (ρ_1 15 3 0 0).toNatClampNeg x1_29) 15 3 0 0).toNatClampNeg (-1 : Int32)) 15 3 0 0) + (1 : Int32))) 15 3 0 0) - (1 : Int32)) C.1 C.2.1 hr (fun t ht hW => ⟨⟨((kh_up (kh_up (kh_up ρ_1 24 0 0 (ρ_1 15 3 0 0).toNatClampNeg x1_29) 29 0 0 ((kh_up ρ_1 24 0 0 (ρ_1 15 3 0 0).toNatClampNeg x1_29) 15 3 0 0).toNatClampNeg (-1 : Int32)) 15 3 0 0 (((kh_up (kh_up ρ_1 24 0 0 (ρ_1 15 3 0 0).toNatClampNeg x1_29) 29 0 0 ((kh_up ρ_1 24 0 0 (ρ_1 15 3 0 0).toNatClampNeg x1_29) 15 3 0 0).toNatClampNeg (-1 : Int32)) 15 3 0 0) + (1 : Int32))) 15 3 0 0) - (1 : Int32), kh_up (kh_up (kh_up ρ_1 24 0 0 (ρ_1 15 3 0 0).toNatClampNeg x1_29) 29 0 0 ((kh_up ρ_1 24 0 0 (ρ_1 15 3 0 0).toNatClampNeg x1_29) 15 3 0 0).toNatClampNeg (-1 : Int32)) 15 3 0 0 (((kh_up (kh_up ρ_1 24 0 0 (ρ_1 15 3 0 0).toNatClampNeg x1_29) 29 0 0 ((kh_up ρ_1 24 0 0 (ρ_1 15 3 0 0).toNatClampNeg x1_29) 15 3 0 0).toNatClampNeg (-1 : Int32)) 15 3 0 0) + (1 : Int32)), rfl, hF0.trans hF.symm, kh_bk ht hw⟩, hS.F ht⟩) hS.2.2 dX5_room_73
    · have hF := kh_iff hF c_2
      refine lv_iconst (v := (0 : Int32)) C.1 C.2.1 dX5_room_35 (by decide) ?_
      exact W.iret (v := (0 : Int32)) C.1 C.2.1 hr (fun t ht hW => ⟨⟨(0 : Int32), ρ_1, rfl, hF0.trans hF.symm, kh_bk ht hw⟩, hS.F ht⟩) hS.2.2 dX5_room_36
  refine lv_aload_n C.1 C.2.1 dX5_room_0 rfl (kh_at hl 0 rfl) ?_
  refine lv_iload_n C.1 C.2.1 dX5_room_1 rfl (kh_at hl 1 rfl) ?_
  refine lv_iconst (v := (0 : Int32)) C.1 C.2.1 dX5_room_2 (by decide) ?_
  refine lv_sipush (v := (4095 : Int32)) C.1 C.2.1 dX5_room_3 (by decide) ?_
  obtain ⟨r_5, h_5, hF⟩ := kh_bd_ok hF
  refine kh_calli (va_runS (As := [.int x1, .int (0 : Int32), .int (4095 : Int32)]) (rest := [.ref (ad 15 0)]) ⟨C.1, C.2.1, C.2.2.1, C.2.2.2.1, C.2.2.2.2.1⟩ (c_X5_in l D ca A ad ρ x1 (0 : Int32) (4095 : Int32) h_5) (va_cwS 3 C.2.2.2.2.1 gX5_room_X5_in rfl rfl rfl (by decide +kernel) ⟨Nat.le_of_ble_eq_true rfl, Nat.le_of_ble_eq_true rfl⟩) (kh_preS C hw hS) rfl rfl hl.1.1 rfl (lv_room (kh_sum (kh_ac rfl kh_an) (Nat.le_of_ble_eq_true rfl))) dX5_room_6 ⟨Nat.le_of_ble_eq_true rfl, Nat.le_of_ble_eq_true rfl⟩) hS (kh_mp h_5) (fun H locs hw hS => ?_)
  refine lv_if_ne (tgt := 16) C.1 C.2.1 dX5_room_9 (by decide) (fun c_6 => ?_) (fun c_6 => ?_)
  · have hF := kh_iff hF c_6
    refine lv_aload_n C.1 C.2.1 dX5_room_16 rfl (kh_at hl 0 rfl) ?_
    refine kh_get C hw 15 3 rfl (kh_z15 ρ) kh_kd15 (Cn := RX5) (T := TX5) (N := 33) rfl (Nat.le_of_ble_eq_true rfl) k_96 (kf_15_3 ad ρ 0) dX5_room_17 ?_
    refine lv_iconst (v := (4 : Int32)) C.1 C.2.1 dX5_room_20 (by decide) ?_
    refine lv_icmp_ne (tgt := 28) C.1 C.2.1 dX5_room_21 (by decide) (fun c_7 => ?_) (fun c_7 => ?_)
    · have hF := kh_iff hF c_7
      refine lv_iconst (v := (0 : Int32)) C.1 C.2.1 dX5_room_28 (by decide) ?_
      exact wL29 ρ x1 (0 : Int32) _ _ _ hF hw hS (kh_sub hl [0, 1] rfl)
    · have hF := kh_ift hF c_7
      refine lv_iconst (v := (2 : Int32)) C.1 C.2.1 dX5_room_24 (by decide) ?_
      refine lv_goto (tgt := 29) C.1 C.2.1 dX5_room_25 (by decide) ?_
      exact wL29 ρ x1 (2 : Int32) _ _ _ hF hw hS (kh_sub hl [0, 1] rfl)
  · have hF := kh_ift hF c_6
    refine lv_iconst (v := (1 : Int32)) C.1 C.2.1 dX5_room_12 (by decide) ?_
    refine lv_goto (tgt := 29) C.1 C.2.1 dX5_room_13 (by decide) ?_
    exact wL29 ρ x1 (1 : Int32) _ _ _ hF hw hS (kh_sub hl [0, 1] rfl)

def f_X5_puzzle_L116 (ρ_116 : kh_S) (x1_116 : Int32) (x2_116 : Int32) (x3_116 : Int32) (x4_116 : Int32) (x5_116 : Int32) (t1_116 : Int32) : Option (Int32 × kh_S) := kh_bd2 (f_X5_refused ρ_116 t1_116) (fun r_1 ρ_1 => if r_1 = 0 then kh_gd (kh_in x1_116 4) (kh_gd (kh_in (((8 : Int32) * x1_116) + (ρ_1 25 0 0 x1_116.toNatClampNeg)) 32) (some (((kh_up (kh_up (kh_up (kh_up (kh_up ρ_1 30 0 0 (((8 : Int32) * x1_116) + (ρ_1 25 0 0 x1_116.toNatClampNeg)).toNatClampNeg x2_116) 31 0 0 (((8 : Int32) * x1_116) + (ρ_1 25 0 0 x1_116.toNatClampNeg)).toNatClampNeg x3_116) 32 0 0 (((8 : Int32) * x1_116) + (ρ_1 25 0 0 x1_116.toNatClampNeg)).toNatClampNeg x4_116) 33 0 0 (((8 : Int32) * x1_116) + (ρ_1 25 0 0 x1_116.toNatClampNeg)).toNatClampNeg x5_116) 25 0 0 x1_116.toNatClampNeg (((kh_up (kh_up (kh_up (kh_up ρ_1 30 0 0 (((8 : Int32) * x1_116) + (ρ_1 25 0 0 x1_116.toNatClampNeg)).toNatClampNeg x2_116) 31 0 0 (((8 : Int32) * x1_116) + (ρ_1 25 0 0 x1_116.toNatClampNeg)).toNatClampNeg x3_116) 32 0 0 (((8 : Int32) * x1_116) + (ρ_1 25 0 0 x1_116.toNatClampNeg)).toNatClampNeg x4_116) 33 0 0 (((8 : Int32) * x1_116) + (ρ_1 25 0 0 x1_116.toNatClampNeg)).toNatClampNeg x5_116) 25 0 0 x1_116.toNatClampNeg) + (1 : Int32))) 25 0 0 x1_116.toNatClampNeg) - (1 : Int32), kh_up (kh_up (kh_up (kh_up (kh_up ρ_1 30 0 0 (((8 : Int32) * x1_116) + (ρ_1 25 0 0 x1_116.toNatClampNeg)).toNatClampNeg x2_116) 31 0 0 (((8 : Int32) * x1_116) + (ρ_1 25 0 0 x1_116.toNatClampNeg)).toNatClampNeg x3_116) 32 0 0 (((8 : Int32) * x1_116) + (ρ_1 25 0 0 x1_116.toNatClampNeg)).toNatClampNeg x4_116) 33 0 0 (((8 : Int32) * x1_116) + (ρ_1 25 0 0 x1_116.toNatClampNeg)).toNatClampNeg x5_116) 25 0 0 x1_116.toNatClampNeg (((kh_up (kh_up (kh_up (kh_up ρ_1 30 0 0 (((8 : Int32) * x1_116) + (ρ_1 25 0 0 x1_116.toNatClampNeg)).toNatClampNeg x2_116) 31 0 0 (((8 : Int32) * x1_116) + (ρ_1 25 0 0 x1_116.toNatClampNeg)).toNatClampNeg x3_116) 32 0 0 (((8 : Int32) * x1_116) + (ρ_1 25 0 0 x1_116.toNatClampNeg)).toNatClampNeg x4_116) 33 0 0 (((8 : Int32) * x1_116) + (ρ_1 25 0 0 x1_116.toNatClampNeg)).toNatClampNeg x5_116) 25 0 0 x1_116.toNatClampNeg) + (1 : Int32))))) else some ((0 : Int32), ρ_1))
def f_X5_puzzle_L111 (ρ_111 : kh_S) (x1_111 : Int32) (x2_111 : Int32) (x3_111 : Int32) (x4_111 : Int32) (x5_111 : Int32) : Option (Int32 × kh_S) := f_X5_puzzle_L116 ρ_111 x1_111 x2_111 x3_111 x4_111 x5_111 (3 : Int32)
def f_X5_puzzle_L70 (ρ_70 : kh_S) (x1_70 : Int32) (x2_70 : Int32) (x3_70 : Int32) (x4_70 : Int32) (x5_70 : Int32) (x6_70 : Int32) (t0_70 : Int32) : Option (Int32 × kh_S) := if x6_70 = 0 then f_X5_puzzle_L116 ρ_70 x1_70 x2_70 x3_70 x4_70 x5_70 (1 : Int32) else if t0_70 = 0 then f_X5_puzzle_L116 ρ_70 x1_70 x2_70 x3_70 x4_70 x5_70 (2 : Int32) else kh_gd (kh_in x1_70 4) (if (ρ_70 26 0 0 x1_70.toNatClampNeg) = 0 then if (ρ_70 25 0 0 x1_70.toNatClampNeg) = (8 : Int32) then f_X5_puzzle_L111 ρ_70 x1_70 x2_70 x3_70 x4_70 x5_70 else f_X5_puzzle_L116 ρ_70 x1_70 x2_70 x3_70 x4_70 x5_70 (0 : Int32) else f_X5_puzzle_L111 ρ_70 x1_70 x2_70 x3_70 x4_70 x5_70)
def f_X5_puzzle_L69 (ρ_69 : kh_S) (x1_69 : Int32) (x2_69 : Int32) (x3_69 : Int32) (x4_69 : Int32) (x5_69 : Int32) (x6_69 : Int32) : Option (Int32 × kh_S) := f_X5_puzzle_L70 ρ_69 x1_69 x2_69 x3_69 x4_69 x5_69 x6_69 (0 : Int32)
def f_X5_puzzle_L24 (ρ_24 : kh_S) (x1_24 : Int32) (x2_24 : Int32) (x3_24 : Int32) (x4_24 : Int32) (x5_24 : Int32) (t0_24 : Int32) : Option (Int32 × kh_S) := kh_bd (f_X5_in ρ_24 x2_24 (0 : Int32) (4095 : Int32)) (fun r_10 => if r_10 = 0 then f_X5_puzzle_L69 ρ_24 x1_24 x2_24 x3_24 x4_24 x5_24 t0_24 else kh_bd (f_X5_in ρ_24 x3_24 (1 : Int32) (4095 : Int32)) (fun r_12 => if r_12 = 0 then f_X5_puzzle_L69 ρ_24 x1_24 x2_24 x3_24 x4_24 x5_24 t0_24 else if (x2_24 &&& x3_24) = 0 then kh_bd (f_X5_in ρ_24 x5_24 (1 : Int32) (10 : Int32)) (fun r_15 => if r_15 = 0 then f_X5_puzzle_L69 ρ_24 x1_24 x2_24 x3_24 x4_24 x5_24 t0_24 else f_X5_puzzle_L70 ρ_24 x1_24 x2_24 x3_24 x4_24 x5_24 t0_24 (1 : Int32)) else f_X5_puzzle_L69 ρ_24 x1_24 x2_24 x3_24 x4_24 x5_24 t0_24))
def f_X5_puzzle_L23 (ρ_23 : kh_S) (x1_23 : Int32) (x2_23 : Int32) (x3_23 : Int32) (x4_23 : Int32) (x5_23 : Int32) : Option (Int32 × kh_S) := f_X5_puzzle_L24 ρ_23 x1_23 x2_23 x3_23 x4_23 x5_23 (0 : Int32)
def f_X5_puzzle (ρ : kh_S) (x1 : Int32) (x2 : Int32) (x3 : Int32) (x4 : Int32) (x5 : Int32) : Option (Int32 × kh_S) := kh_bd (f_X5_isRoom ρ x1) (fun r_17 => if r_17 = 0 then f_X5_puzzle_L23 ρ x1 x2 x3 x4 x5 else kh_bd (f_X5_in ρ x4 (-1 : Int32) (7 : Int32)) (fun r_19 => if r_19 = 0 then f_X5_puzzle_L23 ρ x1 x2 x3 x4 x5 else f_X5_puzzle_L24 ρ x1 x2 x3 x4 x5 (1 : Int32)))
set_option maxHeartbeats 4000000 in
set_option maxRecDepth 100000 in
theorem c_X5_puzzle (l : Launch) (D : va_G) (ca : Nat → ClassId) (A : Nat → Prop) (ad : Nat → Nat → Nat) (ρ : kh_S) (x1 : Int32) (x2 : Int32) (x3 : Int32) (x4 : Int32) (x5 : Int32) {q0 : Int32 × kh_S} (hF0 : f_X5_puzzle ρ x1 x2 x3 x4 x5 = some q0) : Met l yX5_puzzle wsX5_puzzle ({ frames := 2, cells := 0, slots := 0, locals := 43 } : Room) (va_Pc [.ref (ad 15 0), .int x1, .int x2, .int x3, .int x4, .int x5] (kh_I D ca A ad ρ)) (kh_Qi D ca A ad (f_X5_puzzle ρ x1 x2 x3 x4 x5)) 0 0 A := by
  refine Met.ofW (cc := cX5_puzzle) (maxL := 9) (ret := (some .int)) (by decide) rfl ?_
  intro p e s m args below meth c s₁ B hml hv
  obtain ⟨rfl, hK, hw, hA⟩ := hv
  have C : kh_C p s m ([.ref (ad 15 0), .int x1, .int x2, .int x3, .int x4, .int x5]).toArray c cX5_puzzle 9 RX5 wsX5_puzzle D ca A := ⟨B.exec, B.bytes, hml, findClass_of_methodNamed B.named, atoms_spec (ws := wsX5_puzzle) B.pre, hK, hA⟩
  have hr := B.returns
  have hlocks := B.notSynchronized
  have hS : va_S A s.heap s.heap [] := va_S.rf
  have hl := kh_entry ([.ref (ad 15 0), .int x1, .int x2, .int x3, .int x4, .int x5]) (n := 9) (kh_ac rfl (kh_ac rfl (kh_ac rfl (kh_ac rfl (kh_ac rfl (kh_ac rfl kh_an)))))) (Nat.le_of_ble_eq_true rfl)
  rw [lg_entry_eq]
  generalize (lg_sl ([.ref (ad 15 0), .int x1, .int x2, .int x3, .int x4, .int x5]) ++ List.replicate (9 - (lg_sl ([.ref (ad 15 0), .int x1, .int x2, .int x3, .int x4, .int x5])).length) Slot.unset).toArray = ls at hl ⊢
  have hl : kh_lv ls 9 [(0, .ref (ad 15 0)), (1, .int x1), (2, .int x2), (3, .int x3), (4, .int x4), (5, .int x5)] := hl
  have k_13 := C.2.2.2.2.1 (.fieldLink RX5 13 "KeylessHallModel" "many" "[I") (by decide +kernel)
  have k_28 := C.2.2.2.2.1 (.fieldLink RX5 28 "KeylessHallModel" "needs" "[I") (by decide +kernel)
  have k_31 := C.2.2.2.2.1 (.fieldLink RX5 31 "KeylessHallModel" "gives" "[I") (by decide +kernel)
  have k_34 := C.2.2.2.2.1 (.fieldLink RX5 34 "KeylessHallModel" "prop" "[I") (by decide +kernel)
  have k_37 := C.2.2.2.2.1 (.fieldLink RX5 37 "KeylessHallModel" "takes" "[I") (by decide +kernel)
  have k_16 := C.2.2.2.2.1 (.fieldLink RX5 16 "KeylessHallModel" "state" "[I") (by decide +kernel)
  have hF := hF0
  unfold f_X5_puzzle at hF
  have wL116 : ∀ (ρ_116 : kh_S) (x1_116 : Int32) (x2_116 : Int32) (x3_116 : Int32) (x4_116 : Int32) (x5_116 : Int32) (t1_116 : Int32) (H : Heap) (locs : List Loc) (ls : Array Slot), f_X5_puzzle_L116 ρ_116 x1_116 x2_116 x3_116 x4_116 x5_116 t1_116 = some q0 → kh_w D ca A ad ρ_116 H → va_S A s.heap H locs → kh_lv ls 9 [(0, .ref (ad 15 0)), (1, .int x1_116), (2, .int x2_116), (3, .int x3_116), (4, .int x4_116), (5, .int x5_116)] → W p l e (headSpec wsX5_puzzle ({ frames := 2, cells := 0, slots := 0, locals := 43 } : Room)).room s m ([.ref (ad 15 0), .int x1, .int x2, .int x3, .int x4, .int x5]).toArray below meth c H locs 0 0 (MQ below (kh_Qi D ca A ad (f_X5_puzzle ρ x1 x2 x3 x4 x5)) ([.ref (ad 15 0), .int x1, .int x2, .int x3, .int x4, .int x5]).toArray s 0 0 A) (F0 m 116 ls [.int t1_116, .ref (ad 15 0)]) := by
    intro ρ_116 x1_116 x2_116 x3_116 x4_116 x5_116 t1_116 H locs ls hF hw hS hl
    unfold f_X5_puzzle_L116 at hF
    obtain ⟨r_1, ρ_1, h_1, hF⟩ := kh_bd2_ok hF
    refine kh_calli (va_runV (As := [.int t1_116]) (rest := []) ⟨C.1, C.2.1, C.2.2.1, C.2.2.2.1, C.2.2.2.2.1⟩ (c_X5_refused l D ca A ad ρ_116 t1_116 h_1) (cwV 1 C.2.2.2.2.1 gX5_puzzle_X5_refused rfl rfl rfl (by decide +kernel) ⟨Nat.le_of_ble_eq_true rfl, Nat.le_of_ble_eq_true rfl⟩) (kh_preV C hw hS 15 (kh_z15 ρ_116) kh_kd15 rfl) rfl rfl hl.1.1 rfl (lv_room (kh_sum kh_an (Nat.le_of_ble_eq_true rfl))) dX5_puzzle_116 ⟨Nat.le_of_ble_eq_true rfl, Nat.le_of_ble_eq_true rfl⟩) hS h_1 (fun H locs hw hS => ?_)
    refine lv_if_eq (tgt := 124) C.1 C.2.1 dX5_puzzle_119 (by decide) (fun c_2 => ?_) (fun c_2 => ?_)
    · have hF := kh_ift hF c_2
      refine lv_bipush (v := (8 : Int32)) C.1 C.2.1 dX5_puzzle_124 (by decide) ?_
      refine lv_iload_n C.1 C.2.1 dX5_puzzle_126 rfl (kh_at hl 1 rfl) ?_
      refine lv_imul C.1 C.2.1 dX5_puzzle_127 ?_
      refine lv_aload_n C.1 C.2.1 dX5_puzzle_128 rfl (kh_at hl 0 rfl) ?_
      refine kh_get C hw 15 5 rfl (kh_z15 ρ_1) kh_kd15 (Cn := RX5) (T := TX5) (N := 33) rfl (Nat.le_of_ble_eq_true rfl) k_13 (kf_15_5 ad ρ_1 0) dX5_puzzle_129 ?_
      refine lv_iload_n C.1 C.2.1 dX5_puzzle_132 rfl (kh_at hl 1 rfl) ?_
      obtain ⟨g_3, hF⟩ := kh_gd_ok hF
      refine kh_iald C hw 25 rfl (kh_z25 ρ_1) kh_kd25 g_3 dX5_puzzle_133 ?_
      refine lv_iadd C.1 C.2.1 dX5_puzzle_134 ?_
      refine kh_istore (lv' := [(8, .int (((8 : Int32) * x1_116) + (ρ_1 25 0 0 x1_116.toNatClampNeg))), (0, .ref (ad 15 0)), (1, .int x1_116), (2, .int x2_116), (3, .int x3_116), (4, .int x4_116), (5, .int x5_116)]) C.1 C.2.1 dX5_puzzle_135 hl (by decide) rfl (fun ls hl => ?_)
      refine lv_aload_n C.1 C.2.1 dX5_puzzle_137 rfl (kh_at hl 1 rfl) ?_
      refine kh_get C hw 15 10 rfl (kh_z15 ρ_1) kh_kd15 (Cn := RX5) (T := TX5) (N := 33) rfl (Nat.le_of_ble_eq_true rfl) k_28 (kf_15_10 ad ρ_1 0) dX5_puzzle_138 ?_
      refine lv_iload C.1 C.2.1 dX5_puzzle_141 (kh_at hl 0 rfl) ?_
      refine lv_iload_n C.1 C.2.1 dX5_puzzle_143 rfl (kh_at hl 3 rfl) ?_
      obtain ⟨g_4, hF⟩ := kh_gd_ok hF
      refine kh_iast C hw hS 30 rfl (kh_z30 ρ_1) (by decide) kh_kd30 g_4 dX5_puzzle_144 (fun H locs hw hS => ?_)
      refine lv_aload_n C.1 C.2.1 dX5_puzzle_145 rfl (kh_at hl 1 rfl) ?_
      refine kh_get C hw 15 11 rfl (kh_z15 (kh_up ρ_1 30 0 0 (((8 : Int32) * x1_116) + (ρ_1 25 0 0 x1_116.toNatClampNeg)).toNatClampNeg x2_116)) kh_kd15 (Cn := RX5) (T := TX5) (N := 33) rfl (Nat.le_of_ble_eq_true rfl) k_31 (kf_15_11 ad (kh_up ρ_1 30 0 0 (((8 : Int32) * x1_116) + (ρ_1 25 0 0 x1_116.toNatClampNeg)).toNatClampNeg x2_116) 0) dX5_puzzle_146 ?_
      refine lv_iload C.1 C.2.1 dX5_puzzle_149 (kh_at hl 0 rfl) ?_
      refine lv_iload_n C.1 C.2.1 dX5_puzzle_151 rfl (kh_at hl 4 rfl) ?_
      refine kh_iast C hw hS 31 rfl (kh_z31 (kh_up ρ_1 30 0 0 (((8 : Int32) * x1_116) + (ρ_1 25 0 0 x1_116.toNatClampNeg)).toNatClampNeg x2_116)) (by decide) kh_kd31 g_4 dX5_puzzle_152 (fun H locs hw hS => ?_)
      refine lv_aload_n C.1 C.2.1 dX5_puzzle_153 rfl (kh_at hl 1 rfl) ?_
      refine kh_get C hw 15 12 rfl (kh_z15 (kh_up (kh_up ρ_1 30 0 0 (((8 : Int32) * x1_116) + (ρ_1 25 0 0 x1_116.toNatClampNeg)).toNatClampNeg x2_116) 31 0 0 (((8 : Int32) * x1_116) + (ρ_1 25 0 0 x1_116.toNatClampNeg)).toNatClampNeg x3_116)) kh_kd15 (Cn := RX5) (T := TX5) (N := 33) rfl (Nat.le_of_ble_eq_true rfl) k_34 (kf_15_12 ad (kh_up (kh_up ρ_1 30 0 0 (((8 : Int32) * x1_116) + (ρ_1 25 0 0 x1_116.toNatClampNeg)).toNatClampNeg x2_116) 31 0 0 (((8 : Int32) * x1_116) + (ρ_1 25 0 0 x1_116.toNatClampNeg)).toNatClampNeg x3_116) 0) dX5_puzzle_154 ?_
      refine lv_iload C.1 C.2.1 dX5_puzzle_157 (kh_at hl 0 rfl) ?_
      refine lv_iload C.1 C.2.1 dX5_puzzle_159 (kh_at hl 5 rfl) ?_
      refine kh_iast C hw hS 32 rfl (kh_z32 (kh_up (kh_up ρ_1 30 0 0 (((8 : Int32) * x1_116) + (ρ_1 25 0 0 x1_116.toNatClampNeg)).toNatClampNeg x2_116) 31 0 0 (((8 : Int32) * x1_116) + (ρ_1 25 0 0 x1_116.toNatClampNeg)).toNatClampNeg x3_116)) (by decide) kh_kd32 g_4 dX5_puzzle_161 (fun H locs hw hS => ?_)
      refine lv_aload_n C.1 C.2.1 dX5_puzzle_162 rfl (kh_at hl 1 rfl) ?_
      refine kh_get C hw 15 13 rfl (kh_z15 (kh_up (kh_up (kh_up ρ_1 30 0 0 (((8 : Int32) * x1_116) + (ρ_1 25 0 0 x1_116.toNatClampNeg)).toNatClampNeg x2_116) 31 0 0 (((8 : Int32) * x1_116) + (ρ_1 25 0 0 x1_116.toNatClampNeg)).toNatClampNeg x3_116) 32 0 0 (((8 : Int32) * x1_116) + (ρ_1 25 0 0 x1_116.toNatClampNeg)).toNatClampNeg x4_116)) kh_kd15 (Cn := RX5) (T := TX5) (N := 33) rfl (Nat.le_of_ble_eq_true rfl) k_37 (kf_15_13 ad (kh_up (kh_up (kh_up ρ_1 30 0 0 (((8 : Int32) * x1_116) + (ρ_1 25 0 0 x1_116.toNatClampNeg)).toNatClampNeg x2_116) 31 0 0 (((8 : Int32) * x1_116) + (ρ_1 25 0 0 x1_116.toNatClampNeg)).toNatClampNeg x3_116) 32 0 0 (((8 : Int32) * x1_116) + (ρ_1 25 0 0 x1_116.toNatClampNeg)).toNatClampNeg x4_116) 0) dX5_puzzle_163 ?_
      refine lv_iload C.1 C.2.1 dX5_puzzle_166 (kh_at hl 0 rfl) ?_
      refine lv_iload C.1 C.2.1 dX5_puzzle_168 (kh_at hl 6 rfl) ?_
      refine kh_iast C hw hS 33 rfl (kh_z33 (kh_up (kh_up (kh_up ρ_1 30 0 0 (((8 : Int32) * x1_116) + (ρ_1 25 0 0 x1_116.toNatClampNeg)).toNatClampNeg x2_116) 31 0 0 (((8 : Int32) * x1_116) + (ρ_1 25 0 0 x1_116.toNatClampNeg)).toNatClampNeg x3_116) 32 0 0 (((8 : Int32) * x1_116) + (ρ_1 25 0 0 x1_116.toNatClampNeg)).toNatClampNeg x4_116)) (by decide) kh_kd33 g_4 dX5_puzzle_170 (fun H locs hw hS => ?_)
      refine lv_aload_n C.1 C.2.1 dX5_puzzle_171 rfl (kh_at hl 1 rfl) ?_
      refine kh_get C hw 15 5 rfl (kh_z15 (kh_up (kh_up (kh_up (kh_up ρ_1 30 0 0 (((8 : Int32) * x1_116) + (ρ_1 25 0 0 x1_116.toNatClampNeg)).toNatClampNeg x2_116) 31 0 0 (((8 : Int32) * x1_116) + (ρ_1 25 0 0 x1_116.toNatClampNeg)).toNatClampNeg x3_116) 32 0 0 (((8 : Int32) * x1_116) + (ρ_1 25 0 0 x1_116.toNatClampNeg)).toNatClampNeg x4_116) 33 0 0 (((8 : Int32) * x1_116) + (ρ_1 25 0 0 x1_116.toNatClampNeg)).toNatClampNeg x5_116)) kh_kd15 (Cn := RX5) (T := TX5) (N := 33) rfl (Nat.le_of_ble_eq_true rfl) k_13 (kf_15_5 ad (kh_up (kh_up (kh_up (kh_up ρ_1 30 0 0 (((8 : Int32) * x1_116) + (ρ_1 25 0 0 x1_116.toNatClampNeg)).toNatClampNeg x2_116) 31 0 0 (((8 : Int32) * x1_116) + (ρ_1 25 0 0 x1_116.toNatClampNeg)).toNatClampNeg x3_116) 32 0 0 (((8 : Int32) * x1_116) + (ρ_1 25 0 0 x1_116.toNatClampNeg)).toNatClampNeg x4_116) 33 0 0 (((8 : Int32) * x1_116) + (ρ_1 25 0 0 x1_116.toNatClampNeg)).toNatClampNeg x5_116) 0) dX5_puzzle_172 ?_
      refine lv_iload_n C.1 C.2.1 dX5_puzzle_175 rfl (kh_at hl 2 rfl) ?_
      refine lv_dup2_11 C.1 C.2.1 dX5_puzzle_176 rfl rfl ?_
      refine kh_iald C hw 25 rfl (kh_z25 (kh_up (kh_up (kh_up (kh_up ρ_1 30 0 0 (((8 : Int32) * x1_116) + (ρ_1 25 0 0 x1_116.toNatClampNeg)).toNatClampNeg x2_116) 31 0 0 (((8 : Int32) * x1_116) + (ρ_1 25 0 0 x1_116.toNatClampNeg)).toNatClampNeg x3_116) 32 0 0 (((8 : Int32) * x1_116) + (ρ_1 25 0 0 x1_116.toNatClampNeg)).toNatClampNeg x4_116) 33 0 0 (((8 : Int32) * x1_116) + (ρ_1 25 0 0 x1_116.toNatClampNeg)).toNatClampNeg x5_116)) kh_kd25 g_3 dX5_puzzle_177 ?_
      refine lv_iconst (v := (1 : Int32)) C.1 C.2.1 dX5_puzzle_178 (by decide) ?_
      refine lv_iadd C.1 C.2.1 dX5_puzzle_179 ?_
      refine kh_iast C hw hS 25 rfl (kh_z25 (kh_up (kh_up (kh_up (kh_up ρ_1 30 0 0 (((8 : Int32) * x1_116) + (ρ_1 25 0 0 x1_116.toNatClampNeg)).toNatClampNeg x2_116) 31 0 0 (((8 : Int32) * x1_116) + (ρ_1 25 0 0 x1_116.toNatClampNeg)).toNatClampNeg x3_116) 32 0 0 (((8 : Int32) * x1_116) + (ρ_1 25 0 0 x1_116.toNatClampNeg)).toNatClampNeg x4_116) 33 0 0 (((8 : Int32) * x1_116) + (ρ_1 25 0 0 x1_116.toNatClampNeg)).toNatClampNeg x5_116)) (by decide) kh_kd25 g_3 dX5_puzzle_180 (fun H locs hw hS => ?_)
      refine lv_aload_n C.1 C.2.1 dX5_puzzle_181 rfl (kh_at hl 1 rfl) ?_
      refine kh_get C hw 15 5 rfl (kh_z15 (kh_up (kh_up (kh_up (kh_up (kh_up ρ_1 30 0 0 (((8 : Int32) * x1_116) + (ρ_1 25 0 0 x1_116.toNatClampNeg)).toNatClampNeg x2_116) 31 0 0 (((8 : Int32) * x1_116) + (ρ_1 25 0 0 x1_116.toNatClampNeg)).toNatClampNeg x3_116) 32 0 0 (((8 : Int32) * x1_116) + (ρ_1 25 0 0 x1_116.toNatClampNeg)).toNatClampNeg x4_116) 33 0 0 (((8 : Int32) * x1_116) + (ρ_1 25 0 0 x1_116.toNatClampNeg)).toNatClampNeg x5_116) 25 0 0 x1_116.toNatClampNeg (((kh_up (kh_up (kh_up (kh_up ρ_1 30 0 0 (((8 : Int32) * x1_116) + (ρ_1 25 0 0 x1_116.toNatClampNeg)).toNatClampNeg x2_116) 31 0 0 (((8 : Int32) * x1_116) + (ρ_1 25 0 0 x1_116.toNatClampNeg)).toNatClampNeg x3_116) 32 0 0 (((8 : Int32) * x1_116) + (ρ_1 25 0 0 x1_116.toNatClampNeg)).toNatClampNeg x4_116) 33 0 0 (((8 : Int32) * x1_116) + (ρ_1 25 0 0 x1_116.toNatClampNeg)).toNatClampNeg x5_116) 25 0 0 x1_116.toNatClampNeg) + (1 : Int32)))) kh_kd15 (Cn := RX5) (T := TX5) (N := 33) rfl (Nat.le_of_ble_eq_true rfl) k_13 (kf_15_5 ad (kh_up (kh_up (kh_up (kh_up (kh_up ρ_1 30 0 0 (((8 : Int32) * x1_116) + (ρ_1 25 0 0 x1_116.toNatClampNeg)).toNatClampNeg x2_116) 31 0 0 (((8 : Int32) * x1_116) + (ρ_1 25 0 0 x1_116.toNatClampNeg)).toNatClampNeg x3_116) 32 0 0 (((8 : Int32) * x1_116) + (ρ_1 25 0 0 x1_116.toNatClampNeg)).toNatClampNeg x4_116) 33 0 0 (((8 : Int32) * x1_116) + (ρ_1 25 0 0 x1_116.toNatClampNeg)).toNatClampNeg x5_116) 25 0 0 x1_116.toNatClampNeg (((kh_up (kh_up (kh_up (kh_up ρ_1 30 0 0 (((8 : Int32) * x1_116) + (ρ_1 25 0 0 x1_116.toNatClampNeg)).toNatClampNeg x2_116) 31 0 0 (((8 : Int32) * x1_116) + (ρ_1 25 0 0 x1_116.toNatClampNeg)).toNatClampNeg x3_116) 32 0 0 (((8 : Int32) * x1_116) + (ρ_1 25 0 0 x1_116.toNatClampNeg)).toNatClampNeg x4_116) 33 0 0 (((8 : Int32) * x1_116) + (ρ_1 25 0 0 x1_116.toNatClampNeg)).toNatClampNeg x5_116) 25 0 0 x1_116.toNatClampNeg) + (1 : Int32))) 0) dX5_puzzle_182 ?_
      refine lv_iload_n C.1 C.2.1 dX5_puzzle_185 rfl (kh_at hl 2 rfl) ?_
      refine kh_iald C hw 25 rfl (kh_z25 (kh_up (kh_up (kh_up (kh_up (kh_up ρ_1 30 0 0 (((8 : Int32) * x1_116) + (ρ_1 25 0 0 x1_116.toNatClampNeg)).toNatClampNeg x2_116) 31 0 0 (((8 : Int32) * x1_116) + (ρ_1 25 0 0 x1_116.toNatClampNeg)).toNatClampNeg x3_116) 32 0 0 (((8 : Int32) * x1_116) + (ρ_1 25 0 0 x1_116.toNatClampNeg)).toNatClampNeg x4_116) 33 0 0 (((8 : Int32) * x1_116) + (ρ_1 25 0 0 x1_116.toNatClampNeg)).toNatClampNeg x5_116) 25 0 0 x1_116.toNatClampNeg (((kh_up (kh_up (kh_up (kh_up ρ_1 30 0 0 (((8 : Int32) * x1_116) + (ρ_1 25 0 0 x1_116.toNatClampNeg)).toNatClampNeg x2_116) 31 0 0 (((8 : Int32) * x1_116) + (ρ_1 25 0 0 x1_116.toNatClampNeg)).toNatClampNeg x3_116) 32 0 0 (((8 : Int32) * x1_116) + (ρ_1 25 0 0 x1_116.toNatClampNeg)).toNatClampNeg x4_116) 33 0 0 (((8 : Int32) * x1_116) + (ρ_1 25 0 0 x1_116.toNatClampNeg)).toNatClampNeg x5_116) 25 0 0 x1_116.toNatClampNeg) + (1 : Int32)))) kh_kd25 g_3 dX5_puzzle_186 ?_
      refine lv_iconst (v := (1 : Int32)) C.1 C.2.1 dX5_puzzle_187 (by decide) ?_
      refine lv_isub C.1 C.2.1 dX5_puzzle_188 ?_
      exact W.iret (v := ((kh_up (kh_up (kh_up (kh_up (kh_up ρ_1 30 0 0 (((8 : Int32) * x1_116) + (ρ_1 25 0 0 x1_116.toNatClampNeg)).toNatClampNeg x2_116) 31 0 0 (((8 : Int32) * x1_116) + (ρ_1 25 0 0 x1_116.toNatClampNeg)).toNatClampNeg x3_116) 32 0 0 (((8 : Int32) * x1_116) + (ρ_1 25 0 0 x1_116.toNatClampNeg)).toNatClampNeg x4_116) 33 0 0 (((8 : Int32) * x1_116) + (ρ_1 25 0 0 x1_116.toNatClampNeg)).toNatClampNeg x5_116) 25 0 0 x1_116.toNatClampNeg (((kh_up (kh_up (kh_up (kh_up ρ_1 30 0 0 (((8 : Int32) * x1_116) + (ρ_1 25 0 0 x1_116.toNatClampNeg)).toNatClampNeg x2_116) 31 0 0 (((8 : Int32) * x1_116) + (ρ_1 25 0 0 x1_116.toNatClampNeg)).toNatClampNeg x3_116) 32 0 0 (((8 : Int32) * x1_116) + (ρ_1 25 0 0 x1_116.toNatClampNeg)).toNatClampNeg x4_116) 33 0 0 (((8 : Int32) * x1_116) + (ρ_1 25 0 0 x1_116.toNatClampNeg)).toNatClampNeg x5_116) 25 0 0 x1_116.toNatClampNeg) + (1 : Int32))) 25 0 0 x1_116.toNatClampNeg) - (1 : Int32)) C.1 C.2.1 hr (fun t ht hW => ⟨⟨((kh_up (kh_up (kh_up (kh_up (kh_up ρ_1 30 0 0 (((8 : Int32) * x1_116) + (ρ_1 25 0 0 x1_116.toNatClampNeg)).toNatClampNeg x2_116) 31 0 0 (((8 : Int32) * x1_116) + (ρ_1 25 0 0 x1_116.toNatClampNeg)).toNatClampNeg x3_116) 32 0 0 (((8 : Int32) * x1_116) + (ρ_1 25 0 0 x1_116.toNatClampNeg)).toNatClampNeg x4_116) 33 0 0 (((8 : Int32) * x1_116) + (ρ_1 25 0 0 x1_116.toNatClampNeg)).toNatClampNeg x5_116) 25 0 0 x1_116.toNatClampNeg (((kh_up (kh_up (kh_up (kh_up ρ_1 30 0 0 (((8 : Int32) * x1_116) + (ρ_1 25 0 0 x1_116.toNatClampNeg)).toNatClampNeg x2_116) 31 0 0 (((8 : Int32) * x1_116) + (ρ_1 25 0 0 x1_116.toNatClampNeg)).toNatClampNeg x3_116) 32 0 0 (((8 : Int32) * x1_116) + (ρ_1 25 0 0 x1_116.toNatClampNeg)).toNatClampNeg x4_116) 33 0 0 (((8 : Int32) * x1_116) + (ρ_1 25 0 0 x1_116.toNatClampNeg)).toNatClampNeg x5_116) 25 0 0 x1_116.toNatClampNeg) + (1 : Int32))) 25 0 0 x1_116.toNatClampNeg) - (1 : Int32), kh_up (kh_up (kh_up (kh_up (kh_up ρ_1 30 0 0 (((8 : Int32) * x1_116) + (ρ_1 25 0 0 x1_116.toNatClampNeg)).toNatClampNeg x2_116) 31 0 0 (((8 : Int32) * x1_116) + (ρ_1 25 0 0 x1_116.toNatClampNeg)).toNatClampNeg x3_116) 32 0 0 (((8 : Int32) * x1_116) + (ρ_1 25 0 0 x1_116.toNatClampNeg)).toNatClampNeg x4_116) 33 0 0 (((8 : Int32) * x1_116) + (ρ_1 25 0 0 x1_116.toNatClampNeg)).toNatClampNeg x5_116) 25 0 0 x1_116.toNatClampNeg (((kh_up (kh_up (kh_up (kh_up ρ_1 30 0 0 (((8 : Int32) * x1_116) + (ρ_1 25 0 0 x1_116.toNatClampNeg)).toNatClampNeg x2_116) 31 0 0 (((8 : Int32) * x1_116) + (ρ_1 25 0 0 x1_116.toNatClampNeg)).toNatClampNeg x3_116) 32 0 0 (((8 : Int32) * x1_116) + (ρ_1 25 0 0 x1_116.toNatClampNeg)).toNatClampNeg x4_116) 33 0 0 (((8 : Int32) * x1_116) + (ρ_1 25 0 0 x1_116.toNatClampNeg)).toNatClampNeg x5_116) 25 0 0 x1_116.toNatClampNeg) + (1 : Int32)), rfl, hF0.trans hF.symm, kh_bk ht hw⟩, hS.F ht⟩) hS.2.2 dX5_puzzle_189
    · have hF := kh_iff hF c_2
      refine lv_iconst (v := (0 : Int32)) C.1 C.2.1 dX5_puzzle_122 (by decide) ?_
      exact W.iret (v := (0 : Int32)) C.1 C.2.1 hr (fun t ht hW => ⟨⟨(0 : Int32), ρ_1, rfl, hF0.trans hF.symm, kh_bk ht hw⟩, hS.F ht⟩) hS.2.2 dX5_puzzle_123
  have wL111 : ∀ (ρ_111 : kh_S) (x1_111 : Int32) (x2_111 : Int32) (x3_111 : Int32) (x4_111 : Int32) (x5_111 : Int32) (H : Heap) (locs : List Loc) (ls : Array Slot), f_X5_puzzle_L111 ρ_111 x1_111 x2_111 x3_111 x4_111 x5_111 = some q0 → kh_w D ca A ad ρ_111 H → va_S A s.heap H locs → kh_lv ls 9 [(0, .ref (ad 15 0)), (1, .int x1_111), (2, .int x2_111), (3, .int x3_111), (4, .int x4_111), (5, .int x5_111)] → W p l e (headSpec wsX5_puzzle ({ frames := 2, cells := 0, slots := 0, locals := 43 } : Room)).room s m ([.ref (ad 15 0), .int x1, .int x2, .int x3, .int x4, .int x5]).toArray below meth c H locs 0 0 (MQ below (kh_Qi D ca A ad (f_X5_puzzle ρ x1 x2 x3 x4 x5)) ([.ref (ad 15 0), .int x1, .int x2, .int x3, .int x4, .int x5]).toArray s 0 0 A) (F0 m 111 ls [.ref (ad 15 0)]) := by
    intro ρ_111 x1_111 x2_111 x3_111 x4_111 x5_111 H locs ls hF hw hS hl
    unfold f_X5_puzzle_L111 at hF
    refine lv_iconst (v := (3 : Int32)) C.1 C.2.1 dX5_puzzle_111 (by decide) ?_
    refine lv_goto (tgt := 116) C.1 C.2.1 dX5_puzzle_112 (by decide) ?_
    exact wL116 ρ_111 x1_111 x2_111 x3_111 x4_111 x5_111 (3 : Int32) _ _ _ hF hw hS (kh_sub hl [0, 1, 2, 3, 4, 5] rfl)
  have wL70 : ∀ (ρ_70 : kh_S) (x1_70 : Int32) (x2_70 : Int32) (x3_70 : Int32) (x4_70 : Int32) (x5_70 : Int32) (x6_70 : Int32) (t0_70 : Int32) (H : Heap) (locs : List Loc) (ls : Array Slot), f_X5_puzzle_L70 ρ_70 x1_70 x2_70 x3_70 x4_70 x5_70 x6_70 t0_70 = some q0 → kh_w D ca A ad ρ_70 H → va_S A s.heap H locs → kh_lv ls 9 [(0, .ref (ad 15 0)), (1, .int x1_70), (2, .int x2_70), (3, .int x3_70), (4, .int x4_70), (5, .int x5_70), (6, .int x6_70)] → W p l e (headSpec wsX5_puzzle ({ frames := 2, cells := 0, slots := 0, locals := 43 } : Room)).room s m ([.ref (ad 15 0), .int x1, .int x2, .int x3, .int x4, .int x5]).toArray below meth c H locs 0 0 (MQ below (kh_Qi D ca A ad (f_X5_puzzle ρ x1 x2 x3 x4 x5)) ([.ref (ad 15 0), .int x1, .int x2, .int x3, .int x4, .int x5]).toArray s 0 0 A) (F0 m 70 ls [.int t0_70]) := by
    intro ρ_70 x1_70 x2_70 x3_70 x4_70 x5_70 x6_70 t0_70 H locs ls hF hw hS hl
    unfold f_X5_puzzle_L70 at hF
    refine kh_istore (lv' := [(7, .int t0_70), (0, .ref (ad 15 0)), (1, .int x1_70), (2, .int x2_70), (3, .int x3_70), (4, .int x4_70), (5, .int x5_70), (6, .int x6_70)]) C.1 C.2.1 dX5_puzzle_70 hl (by decide) rfl (fun ls hl => ?_)
    refine lv_aload_n C.1 C.2.1 dX5_puzzle_72 rfl (kh_at hl 1 rfl) ?_
    refine lv_iload C.1 C.2.1 dX5_puzzle_73 (kh_at hl 7 rfl) ?_
    refine lv_if_ne (tgt := 82) C.1 C.2.1 dX5_puzzle_75 (by decide) (fun c_5 => ?_) (fun c_5 => ?_)
    · have hF := kh_iff hF c_5
      refine lv_iload C.1 C.2.1 dX5_puzzle_82 (kh_at hl 0 rfl) ?_
      refine lv_if_ne (tgt := 91) C.1 C.2.1 dX5_puzzle_84 (by decide) (fun c_6 => ?_) (fun c_6 => ?_)
      · have hF := kh_iff hF c_6
        refine lv_aload_n C.1 C.2.1 dX5_puzzle_91 rfl (kh_at hl 1 rfl) ?_
        refine kh_get C hw 15 6 rfl (kh_z15 ρ_70) kh_kd15 (Cn := RX5) (T := TX5) (N := 33) rfl (Nat.le_of_ble_eq_true rfl) k_16 (kf_15_6 ad ρ_70 0) dX5_puzzle_92 ?_
        refine lv_iload_n C.1 C.2.1 dX5_puzzle_95 rfl (kh_at hl 2 rfl) ?_
        obtain ⟨g_7, hF⟩ := kh_gd_ok hF
        refine kh_iald C hw 26 rfl (kh_z26 ρ_70) kh_kd26 g_7 dX5_puzzle_96 ?_
        refine lv_if_ne (tgt := 111) C.1 C.2.1 dX5_puzzle_97 (by decide) (fun c_8 => ?_) (fun c_8 => ?_)
        · have hF := kh_iff hF c_8
          exact wL111 ρ_70 x1_70 x2_70 x3_70 x4_70 x5_70 _ _ _ hF hw hS (kh_sub hl [1, 2, 3, 4, 5, 6] rfl)
        · have hF := kh_ift hF c_8
          refine lv_aload_n C.1 C.2.1 dX5_puzzle_100 rfl (kh_at hl 1 rfl) ?_
          refine kh_get C hw 15 5 rfl (kh_z15 ρ_70) kh_kd15 (Cn := RX5) (T := TX5) (N := 33) rfl (Nat.le_of_ble_eq_true rfl) k_13 (kf_15_5 ad ρ_70 0) dX5_puzzle_101 ?_
          refine lv_iload_n C.1 C.2.1 dX5_puzzle_104 rfl (kh_at hl 2 rfl) ?_
          refine kh_iald C hw 25 rfl (kh_z25 ρ_70) kh_kd25 g_7 dX5_puzzle_105 ?_
          refine lv_bipush (v := (8 : Int32)) C.1 C.2.1 dX5_puzzle_106 (by decide) ?_
          refine lv_icmp_ne (tgt := 115) C.1 C.2.1 dX5_puzzle_108 (by decide) (fun c_9 => ?_) (fun c_9 => ?_)
          · have hF := kh_iff hF c_9
            refine lv_iconst (v := (0 : Int32)) C.1 C.2.1 dX5_puzzle_115 (by decide) ?_
            exact wL116 ρ_70 x1_70 x2_70 x3_70 x4_70 x5_70 (0 : Int32) _ _ _ hF hw hS (kh_sub hl [1, 2, 3, 4, 5, 6] rfl)
          · have hF := kh_ift hF c_9
            exact wL111 ρ_70 x1_70 x2_70 x3_70 x4_70 x5_70 _ _ _ hF hw hS (kh_sub hl [1, 2, 3, 4, 5, 6] rfl)
      · have hF := kh_ift hF c_6
        refine lv_iconst (v := (2 : Int32)) C.1 C.2.1 dX5_puzzle_87 (by decide) ?_
        refine lv_goto (tgt := 116) C.1 C.2.1 dX5_puzzle_88 (by decide) ?_
        exact wL116 ρ_70 x1_70 x2_70 x3_70 x4_70 x5_70 (2 : Int32) _ _ _ hF hw hS (kh_sub hl [1, 2, 3, 4, 5, 6] rfl)
    · have hF := kh_ift hF c_5
      refine lv_iconst (v := (1 : Int32)) C.1 C.2.1 dX5_puzzle_78 (by decide) ?_
      refine lv_goto (tgt := 116) C.1 C.2.1 dX5_puzzle_79 (by decide) ?_
      exact wL116 ρ_70 x1_70 x2_70 x3_70 x4_70 x5_70 (1 : Int32) _ _ _ hF hw hS (kh_sub hl [1, 2, 3, 4, 5, 6] rfl)
  have wL69 : ∀ (ρ_69 : kh_S) (x1_69 : Int32) (x2_69 : Int32) (x3_69 : Int32) (x4_69 : Int32) (x5_69 : Int32) (x6_69 : Int32) (H : Heap) (locs : List Loc) (ls : Array Slot), f_X5_puzzle_L69 ρ_69 x1_69 x2_69 x3_69 x4_69 x5_69 x6_69 = some q0 → kh_w D ca A ad ρ_69 H → va_S A s.heap H locs → kh_lv ls 9 [(0, .ref (ad 15 0)), (1, .int x1_69), (2, .int x2_69), (3, .int x3_69), (4, .int x4_69), (5, .int x5_69), (6, .int x6_69)] → W p l e (headSpec wsX5_puzzle ({ frames := 2, cells := 0, slots := 0, locals := 43 } : Room)).room s m ([.ref (ad 15 0), .int x1, .int x2, .int x3, .int x4, .int x5]).toArray below meth c H locs 0 0 (MQ below (kh_Qi D ca A ad (f_X5_puzzle ρ x1 x2 x3 x4 x5)) ([.ref (ad 15 0), .int x1, .int x2, .int x3, .int x4, .int x5]).toArray s 0 0 A) (F0 m 69 ls []) := by
    intro ρ_69 x1_69 x2_69 x3_69 x4_69 x5_69 x6_69 H locs ls hF hw hS hl
    unfold f_X5_puzzle_L69 at hF
    refine lv_iconst (v := (0 : Int32)) C.1 C.2.1 dX5_puzzle_69 (by decide) ?_
    exact wL70 ρ_69 x1_69 x2_69 x3_69 x4_69 x5_69 x6_69 (0 : Int32) _ _ _ hF hw hS (kh_sub hl [0, 1, 2, 3, 4, 5, 6] rfl)
  have wL24 : ∀ (ρ_24 : kh_S) (x1_24 : Int32) (x2_24 : Int32) (x3_24 : Int32) (x4_24 : Int32) (x5_24 : Int32) (t0_24 : Int32) (H : Heap) (locs : List Loc) (ls : Array Slot), f_X5_puzzle_L24 ρ_24 x1_24 x2_24 x3_24 x4_24 x5_24 t0_24 = some q0 → kh_w D ca A ad ρ_24 H → va_S A s.heap H locs → kh_lv ls 9 [(0, .ref (ad 15 0)), (1, .int x1_24), (2, .int x2_24), (3, .int x3_24), (4, .int x4_24), (5, .int x5_24)] → W p l e (headSpec wsX5_puzzle ({ frames := 2, cells := 0, slots := 0, locals := 43 } : Room)).room s m ([.ref (ad 15 0), .int x1, .int x2, .int x3, .int x4, .int x5]).toArray below meth c H locs 0 0 (MQ below (kh_Qi D ca A ad (f_X5_puzzle ρ x1 x2 x3 x4 x5)) ([.ref (ad 15 0), .int x1, .int x2, .int x3, .int x4, .int x5]).toArray s 0 0 A) (F0 m 24 ls [.int t0_24]) := by
    intro ρ_24 x1_24 x2_24 x3_24 x4_24 x5_24 t0_24 H locs ls hF hw hS hl
    unfold f_X5_puzzle_L24 at hF
    refine kh_istore (lv' := [(6, .int t0_24), (0, .ref (ad 15 0)), (1, .int x1_24), (2, .int x2_24), (3, .int x3_24), (4, .int x4_24), (5, .int x5_24)]) C.1 C.2.1 dX5_puzzle_24 hl (by decide) rfl (fun ls hl => ?_)
    refine lv_iload_n C.1 C.2.1 dX5_puzzle_26 rfl (kh_at hl 3 rfl) ?_
    refine lv_iconst (v := (0 : Int32)) C.1 C.2.1 dX5_puzzle_27 (by decide) ?_
    refine lv_sipush (v := (4095 : Int32)) C.1 C.2.1 dX5_puzzle_28 (by decide) ?_
    obtain ⟨r_10, h_10, hF⟩ := kh_bd_ok hF
    refine kh_calli (va_runS (As := [.int x2_24, .int (0 : Int32), .int (4095 : Int32)]) (rest := []) ⟨C.1, C.2.1, C.2.2.1, C.2.2.2.1, C.2.2.2.2.1⟩ (c_X5_in l D ca A ad ρ_24 x2_24 (0 : Int32) (4095 : Int32) h_10) (va_cwS 3 C.2.2.2.2.1 gX5_puzzle_X5_in rfl rfl rfl (by decide +kernel) ⟨Nat.le_of_ble_eq_true rfl, Nat.le_of_ble_eq_true rfl⟩) (kh_preS C hw hS) rfl rfl hl.1.1 rfl (lv_room (kh_sum kh_an (Nat.le_of_ble_eq_true rfl))) dX5_puzzle_31 ⟨Nat.le_of_ble_eq_true rfl, Nat.le_of_ble_eq_true rfl⟩) hS (kh_mp h_10) (fun H locs hw hS => ?_)
    refine lv_if_eq (tgt := 69) C.1 C.2.1 dX5_puzzle_34 (by decide) (fun c_11 => ?_) (fun c_11 => ?_)
    · have hF := kh_ift hF c_11
      exact wL69 ρ_24 x1_24 x2_24 x3_24 x4_24 x5_24 t0_24 _ _ _ hF hw hS (kh_sub hl [1, 2, 3, 4, 5, 6, 0] rfl)
    · have hF := kh_iff hF c_11
      refine lv_iload_n C.1 C.2.1 dX5_puzzle_37 rfl (kh_at hl 4 rfl) ?_
      refine lv_iconst (v := (1 : Int32)) C.1 C.2.1 dX5_puzzle_38 (by decide) ?_
      refine lv_sipush (v := (4095 : Int32)) C.1 C.2.1 dX5_puzzle_39 (by decide) ?_
      obtain ⟨r_12, h_12, hF⟩ := kh_bd_ok hF
      refine kh_calli (va_runS (As := [.int x3_24, .int (1 : Int32), .int (4095 : Int32)]) (rest := []) ⟨C.1, C.2.1, C.2.2.1, C.2.2.2.1, C.2.2.2.2.1⟩ (c_X5_in l D ca A ad ρ_24 x3_24 (1 : Int32) (4095 : Int32) h_12) (va_cwS 3 C.2.2.2.2.1 gX5_puzzle_X5_in rfl rfl rfl (by decide +kernel) ⟨Nat.le_of_ble_eq_true rfl, Nat.le_of_ble_eq_true rfl⟩) (kh_preS C hw hS) rfl rfl hl.1.1 rfl (lv_room (kh_sum kh_an (Nat.le_of_ble_eq_true rfl))) dX5_puzzle_42 ⟨Nat.le_of_ble_eq_true rfl, Nat.le_of_ble_eq_true rfl⟩) hS (kh_mp h_12) (fun H locs hw hS => ?_)
      refine lv_if_eq (tgt := 69) C.1 C.2.1 dX5_puzzle_45 (by decide) (fun c_13 => ?_) (fun c_13 => ?_)
      · have hF := kh_ift hF c_13
        exact wL69 ρ_24 x1_24 x2_24 x3_24 x4_24 x5_24 t0_24 _ _ _ hF hw hS (kh_sub hl [1, 2, 3, 4, 5, 6, 0] rfl)
      · have hF := kh_iff hF c_13
        refine lv_iload_n C.1 C.2.1 dX5_puzzle_48 rfl (kh_at hl 3 rfl) ?_
        refine lv_iload_n C.1 C.2.1 dX5_puzzle_49 rfl (kh_at hl 4 rfl) ?_
        refine lv_iand C.1 C.2.1 dX5_puzzle_50 ?_
        refine lv_if_ne (tgt := 69) C.1 C.2.1 dX5_puzzle_51 (by decide) (fun c_14 => ?_) (fun c_14 => ?_)
        · have hF := kh_iff hF c_14
          exact wL69 ρ_24 x1_24 x2_24 x3_24 x4_24 x5_24 t0_24 _ _ _ hF hw hS (kh_sub hl [1, 2, 3, 4, 5, 6, 0] rfl)
        · have hF := kh_ift hF c_14
          refine lv_iload C.1 C.2.1 dX5_puzzle_54 (kh_at hl 6 rfl) ?_
          refine lv_iconst (v := (1 : Int32)) C.1 C.2.1 dX5_puzzle_56 (by decide) ?_
          refine lv_bipush (v := (10 : Int32)) C.1 C.2.1 dX5_puzzle_57 (by decide) ?_
          obtain ⟨r_15, h_15, hF⟩ := kh_bd_ok hF
          refine kh_calli (va_runS (As := [.int x5_24, .int (1 : Int32), .int (10 : Int32)]) (rest := []) ⟨C.1, C.2.1, C.2.2.1, C.2.2.2.1, C.2.2.2.2.1⟩ (c_X5_in l D ca A ad ρ_24 x5_24 (1 : Int32) (10 : Int32) h_15) (va_cwS 3 C.2.2.2.2.1 gX5_puzzle_X5_in rfl rfl rfl (by decide +kernel) ⟨Nat.le_of_ble_eq_true rfl, Nat.le_of_ble_eq_true rfl⟩) (kh_preS C hw hS) rfl rfl hl.1.1 rfl (lv_room (kh_sum kh_an (Nat.le_of_ble_eq_true rfl))) dX5_puzzle_59 ⟨Nat.le_of_ble_eq_true rfl, Nat.le_of_ble_eq_true rfl⟩) hS (kh_mp h_15) (fun H locs hw hS => ?_)
          refine lv_if_eq (tgt := 69) C.1 C.2.1 dX5_puzzle_62 (by decide) (fun c_16 => ?_) (fun c_16 => ?_)
          · have hF := kh_ift hF c_16
            exact wL69 ρ_24 x1_24 x2_24 x3_24 x4_24 x5_24 t0_24 _ _ _ hF hw hS (kh_sub hl [1, 2, 3, 4, 5, 6, 0] rfl)
          · have hF := kh_iff hF c_16
            refine lv_iconst (v := (1 : Int32)) C.1 C.2.1 dX5_puzzle_65 (by decide) ?_
            refine lv_goto (tgt := 70) C.1 C.2.1 dX5_puzzle_66 (by decide) ?_
            exact wL70 ρ_24 x1_24 x2_24 x3_24 x4_24 x5_24 t0_24 (1 : Int32) _ _ _ hF hw hS (kh_sub hl [1, 2, 3, 4, 5, 6, 0] rfl)
  have wL23 : ∀ (ρ_23 : kh_S) (x1_23 : Int32) (x2_23 : Int32) (x3_23 : Int32) (x4_23 : Int32) (x5_23 : Int32) (H : Heap) (locs : List Loc) (ls : Array Slot), f_X5_puzzle_L23 ρ_23 x1_23 x2_23 x3_23 x4_23 x5_23 = some q0 → kh_w D ca A ad ρ_23 H → va_S A s.heap H locs → kh_lv ls 9 [(0, .ref (ad 15 0)), (1, .int x1_23), (2, .int x2_23), (3, .int x3_23), (4, .int x4_23), (5, .int x5_23)] → W p l e (headSpec wsX5_puzzle ({ frames := 2, cells := 0, slots := 0, locals := 43 } : Room)).room s m ([.ref (ad 15 0), .int x1, .int x2, .int x3, .int x4, .int x5]).toArray below meth c H locs 0 0 (MQ below (kh_Qi D ca A ad (f_X5_puzzle ρ x1 x2 x3 x4 x5)) ([.ref (ad 15 0), .int x1, .int x2, .int x3, .int x4, .int x5]).toArray s 0 0 A) (F0 m 23 ls []) := by
    intro ρ_23 x1_23 x2_23 x3_23 x4_23 x5_23 H locs ls hF hw hS hl
    unfold f_X5_puzzle_L23 at hF
    refine lv_iconst (v := (0 : Int32)) C.1 C.2.1 dX5_puzzle_23 (by decide) ?_
    exact wL24 ρ_23 x1_23 x2_23 x3_23 x4_23 x5_23 (0 : Int32) _ _ _ hF hw hS (kh_sub hl [0, 1, 2, 3, 4, 5] rfl)
  refine lv_aload_n C.1 C.2.1 dX5_puzzle_0 rfl (kh_at hl 0 rfl) ?_
  refine lv_iload_n C.1 C.2.1 dX5_puzzle_1 rfl (kh_at hl 1 rfl) ?_
  obtain ⟨r_17, h_17, hF⟩ := kh_bd_ok hF
  refine kh_calli (va_runV (As := [.int x1]) (rest := []) ⟨C.1, C.2.1, C.2.2.1, C.2.2.2.1, C.2.2.2.2.1⟩ (c_X5_isRoom l D ca A ad ρ x1 h_17) (cwV 1 C.2.2.2.2.1 gX5_puzzle_X5_isRoom rfl rfl rfl (by decide +kernel) ⟨Nat.le_of_ble_eq_true rfl, Nat.le_of_ble_eq_true rfl⟩) (kh_preV C hw hS 15 (kh_z15 ρ) kh_kd15 rfl) rfl rfl hl.1.1 rfl (lv_room (kh_sum kh_an (Nat.le_of_ble_eq_true rfl))) dX5_puzzle_2 ⟨Nat.le_of_ble_eq_true rfl, Nat.le_of_ble_eq_true rfl⟩) hS (kh_mp h_17) (fun H locs hw hS => ?_)
  refine lv_if_eq (tgt := 23) C.1 C.2.1 dX5_puzzle_5 (by decide) (fun c_18 => ?_) (fun c_18 => ?_)
  · have hF := kh_ift hF c_18
    exact wL23 ρ x1 x2 x3 x4 x5 _ _ _ hF hw hS (kh_sub hl [0, 1, 2, 3, 4, 5] rfl)
  · have hF := kh_iff hF c_18
    refine lv_iload C.1 C.2.1 dX5_puzzle_8 (kh_at hl 4 rfl) ?_
    refine lv_iconst (v := (-1 : Int32)) C.1 C.2.1 dX5_puzzle_10 (by decide) ?_
    refine lv_bipush (v := (7 : Int32)) C.1 C.2.1 dX5_puzzle_11 (by decide) ?_
    obtain ⟨r_19, h_19, hF⟩ := kh_bd_ok hF
    refine kh_calli (va_runS (As := [.int x4, .int (-1 : Int32), .int (7 : Int32)]) (rest := []) ⟨C.1, C.2.1, C.2.2.1, C.2.2.2.1, C.2.2.2.2.1⟩ (c_X5_in l D ca A ad ρ x4 (-1 : Int32) (7 : Int32) h_19) (va_cwS 3 C.2.2.2.2.1 gX5_puzzle_X5_in rfl rfl rfl (by decide +kernel) ⟨Nat.le_of_ble_eq_true rfl, Nat.le_of_ble_eq_true rfl⟩) (kh_preS C hw hS) rfl rfl hl.1.1 rfl (lv_room (kh_sum kh_an (Nat.le_of_ble_eq_true rfl))) dX5_puzzle_13 ⟨Nat.le_of_ble_eq_true rfl, Nat.le_of_ble_eq_true rfl⟩) hS (kh_mp h_19) (fun H locs hw hS => ?_)
    refine lv_if_eq (tgt := 23) C.1 C.2.1 dX5_puzzle_16 (by decide) (fun c_20 => ?_) (fun c_20 => ?_)
    · have hF := kh_ift hF c_20
      exact wL23 ρ x1 x2 x3 x4 x5 _ _ _ hF hw hS (kh_sub hl [0, 1, 2, 3, 4, 5] rfl)
    · have hF := kh_iff hF c_20
      refine lv_iconst (v := (1 : Int32)) C.1 C.2.1 dX5_puzzle_19 (by decide) ?_
      refine lv_goto (tgt := 24) C.1 C.2.1 dX5_puzzle_20 (by decide) ?_
      exact wL24 ρ x1 x2 x3 x4 x5 (1 : Int32) _ _ _ hF hw hS (kh_sub hl [0, 1, 2, 3, 4, 5] rfl)

def f_X5_leaves (ρ : kh_S) (x1 : Int32) (x2 : Int32) : Option (kh_S) := kh_gd (kh_in x1 30) (kh_gd (kh_in (ρ 36 0 0 x1.toNatClampNeg) 4) (some (kh_up (kh_up (kh_up (kh_up ρ 35 0 0 x1.toNatClampNeg x2) 26 0 0 (ρ 36 0 0 x1.toNatClampNeg).toNatClampNeg (2 : Int32)) 27 0 0 (ρ 36 0 0 x1.toNatClampNeg).toNatClampNeg ((kh_up (kh_up ρ 35 0 0 x1.toNatClampNeg x2) 26 0 0 (ρ 36 0 0 x1.toNatClampNeg).toNatClampNeg (2 : Int32)) 38 0 0 x1.toNatClampNeg)) 29 0 0 (ρ 36 0 0 x1.toNatClampNeg).toNatClampNeg (-1 : Int32))))
set_option maxHeartbeats 4000000 in
set_option maxRecDepth 100000 in
theorem c_X5_leaves (l : Launch) (D : va_G) (ca : Nat → ClassId) (A : Nat → Prop) (ad : Nat → Nat → Nat) (ρ : kh_S) (x1 : Int32) (x2 : Int32) {q0 : kh_S} (hF0 : f_X5_leaves ρ x1 x2 = some q0) : Met l yX5_leaves wsX5_leaves ({ frames := 0, cells := 0, slots := 0, locals := 0 } : Room) (va_Pc [.ref (ad 15 0), .int x1, .int x2] (kh_I D ca A ad ρ)) (kh_Qv D ca A ad (f_X5_leaves ρ x1 x2)) 0 0 A := by
  refine Met.ofW (cc := cX5_leaves) (maxL := 4) (ret := none) (by decide) rfl ?_
  intro p e s m args below meth c s₁ B hml hv
  obtain ⟨rfl, hK, hw, hA⟩ := hv
  have C : kh_C p s m ([.ref (ad 15 0), .int x1, .int x2]).toArray c cX5_leaves 4 RX5 wsX5_leaves D ca A := ⟨B.exec, B.bytes, hml, findClass_of_methodNamed B.named, atoms_spec (ws := wsX5_leaves) B.pre, hK, hA⟩
  have hr := B.returns
  have hlocks := B.notSynchronized
  have hS : va_S A s.heap s.heap [] := va_S.rf
  have hl := kh_entry ([.ref (ad 15 0), .int x1, .int x2]) (n := 4) (kh_ac rfl (kh_ac rfl (kh_ac rfl kh_an))) (Nat.le_of_ble_eq_true rfl)
  rw [lg_entry_eq]
  generalize (lg_sl ([.ref (ad 15 0), .int x1, .int x2]) ++ List.replicate (4 - (lg_sl ([.ref (ad 15 0), .int x1, .int x2])).length) Slot.unset).toArray = ls at hl ⊢
  have hl : kh_lv ls 4 [(0, .ref (ad 15 0)), (1, .int x1), (2, .int x2)] := hl
  have k_43 := C.2.2.2.2.1 (.fieldLink RX5 43 "KeylessHallModel" "roomOf" "[I") (by decide +kernel)
  have k_40 := C.2.2.2.2.1 (.fieldLink RX5 40 "KeylessHallModel" "how" "[I") (by decide +kernel)
  have k_16 := C.2.2.2.2.1 (.fieldLink RX5 16 "KeylessHallModel" "state" "[I") (by decide +kernel)
  have k_19 := C.2.2.2.2.1 (.fieldLink RX5 19 "KeylessHallModel" "toReset" "[I") (by decide +kernel)
  have k_49 := C.2.2.2.2.1 (.fieldLink RX5 49 "KeylessHallModel" "solved" "[I") (by decide +kernel)
  have k_25 := C.2.2.2.2.1 (.fieldLink RX5 25 "KeylessHallModel" "groupIn" "[I") (by decide +kernel)
  have hF := hF0
  unfold f_X5_leaves at hF
  refine lv_aload_n C.1 C.2.1 dX5_leaves_0 rfl (kh_at hl 0 rfl) ?_
  refine kh_get C hw 15 16 rfl (kh_z15 ρ) kh_kd15 (Cn := RX5) (T := TX5) (N := 33) rfl (Nat.le_of_ble_eq_true rfl) k_43 (kf_15_16 ad ρ 0) dX5_leaves_1 ?_
  refine lv_iload_n C.1 C.2.1 dX5_leaves_4 rfl (kh_at hl 1 rfl) ?_
  obtain ⟨g_1, hF⟩ := kh_gd_ok hF
  refine kh_iald C hw 36 rfl (kh_z36 ρ) kh_kd36 g_1 dX5_leaves_5 ?_
  refine kh_istore_n (lv' := [(3, .int (ρ 36 0 0 x1.toNatClampNeg)), (0, .ref (ad 15 0)), (1, .int x1), (2, .int x2)]) C.1 C.2.1 dX5_leaves_6 rfl hl (by decide) rfl (fun ls hl => ?_)
  refine lv_aload_n C.1 C.2.1 dX5_leaves_7 rfl (kh_at hl 1 rfl) ?_
  refine kh_get C hw 15 15 rfl (kh_z15 ρ) kh_kd15 (Cn := RX5) (T := TX5) (N := 33) rfl (Nat.le_of_ble_eq_true rfl) k_40 (kf_15_15 ad ρ 0) dX5_leaves_8 ?_
  refine lv_iload_n C.1 C.2.1 dX5_leaves_11 rfl (kh_at hl 2 rfl) ?_
  refine lv_iload_n C.1 C.2.1 dX5_leaves_12 rfl (kh_at hl 3 rfl) ?_
  refine kh_iast C hw hS 35 rfl (kh_z35 ρ) (by decide) kh_kd35 g_1 dX5_leaves_13 (fun H locs hw hS => ?_)
  refine lv_aload_n C.1 C.2.1 dX5_leaves_14 rfl (kh_at hl 1 rfl) ?_
  refine kh_get C hw 15 6 rfl (kh_z15 (kh_up ρ 35 0 0 x1.toNatClampNeg x2)) kh_kd15 (Cn := RX5) (T := TX5) (N := 33) rfl (Nat.le_of_ble_eq_true rfl) k_16 (kf_15_6 ad (kh_up ρ 35 0 0 x1.toNatClampNeg x2) 0) dX5_leaves_15 ?_
  refine lv_iload_n C.1 C.2.1 dX5_leaves_18 rfl (kh_at hl 0 rfl) ?_
  refine lv_iconst (v := (2 : Int32)) C.1 C.2.1 dX5_leaves_19 (by decide) ?_
  obtain ⟨g_2, hF⟩ := kh_gd_ok hF
  refine kh_iast C hw hS 26 rfl (kh_z26 (kh_up ρ 35 0 0 x1.toNatClampNeg x2)) (by decide) kh_kd26 g_2 dX5_leaves_20 (fun H locs hw hS => ?_)
  refine lv_aload_n C.1 C.2.1 dX5_leaves_21 rfl (kh_at hl 1 rfl) ?_
  refine kh_get C hw 15 7 rfl (kh_z15 (kh_up (kh_up ρ 35 0 0 x1.toNatClampNeg x2) 26 0 0 (ρ 36 0 0 x1.toNatClampNeg).toNatClampNeg (2 : Int32))) kh_kd15 (Cn := RX5) (T := TX5) (N := 33) rfl (Nat.le_of_ble_eq_true rfl) k_19 (kf_15_7 ad (kh_up (kh_up ρ 35 0 0 x1.toNatClampNeg x2) 26 0 0 (ρ 36 0 0 x1.toNatClampNeg).toNatClampNeg (2 : Int32)) 0) dX5_leaves_22 ?_
  refine lv_iload_n C.1 C.2.1 dX5_leaves_25 rfl (kh_at hl 0 rfl) ?_
  refine lv_aload_n C.1 C.2.1 dX5_leaves_26 rfl (kh_at hl 1 rfl) ?_
  refine kh_get C hw 15 18 rfl (kh_z15 (kh_up (kh_up ρ 35 0 0 x1.toNatClampNeg x2) 26 0 0 (ρ 36 0 0 x1.toNatClampNeg).toNatClampNeg (2 : Int32))) kh_kd15 (Cn := RX5) (T := TX5) (N := 33) rfl (Nat.le_of_ble_eq_true rfl) k_49 (kf_15_18 ad (kh_up (kh_up ρ 35 0 0 x1.toNatClampNeg x2) 26 0 0 (ρ 36 0 0 x1.toNatClampNeg).toNatClampNeg (2 : Int32)) 0) dX5_leaves_27 ?_
  refine lv_iload_n C.1 C.2.1 dX5_leaves_30 rfl (kh_at hl 2 rfl) ?_
  refine kh_iald C hw 38 rfl (kh_z38 (kh_up (kh_up ρ 35 0 0 x1.toNatClampNeg x2) 26 0 0 (ρ 36 0 0 x1.toNatClampNeg).toNatClampNeg (2 : Int32))) kh_kd38 g_1 dX5_leaves_31 ?_
  refine kh_iast C hw hS 27 rfl (kh_z27 (kh_up (kh_up ρ 35 0 0 x1.toNatClampNeg x2) 26 0 0 (ρ 36 0 0 x1.toNatClampNeg).toNatClampNeg (2 : Int32))) (by decide) kh_kd27 g_2 dX5_leaves_32 (fun H locs hw hS => ?_)
  refine lv_aload_n C.1 C.2.1 dX5_leaves_33 rfl (kh_at hl 1 rfl) ?_
  refine kh_get C hw 15 9 rfl (kh_z15 (kh_up (kh_up (kh_up ρ 35 0 0 x1.toNatClampNeg x2) 26 0 0 (ρ 36 0 0 x1.toNatClampNeg).toNatClampNeg (2 : Int32)) 27 0 0 (ρ 36 0 0 x1.toNatClampNeg).toNatClampNeg ((kh_up (kh_up ρ 35 0 0 x1.toNatClampNeg x2) 26 0 0 (ρ 36 0 0 x1.toNatClampNeg).toNatClampNeg (2 : Int32)) 38 0 0 x1.toNatClampNeg))) kh_kd15 (Cn := RX5) (T := TX5) (N := 33) rfl (Nat.le_of_ble_eq_true rfl) k_25 (kf_15_9 ad (kh_up (kh_up (kh_up ρ 35 0 0 x1.toNatClampNeg x2) 26 0 0 (ρ 36 0 0 x1.toNatClampNeg).toNatClampNeg (2 : Int32)) 27 0 0 (ρ 36 0 0 x1.toNatClampNeg).toNatClampNeg ((kh_up (kh_up ρ 35 0 0 x1.toNatClampNeg x2) 26 0 0 (ρ 36 0 0 x1.toNatClampNeg).toNatClampNeg (2 : Int32)) 38 0 0 x1.toNatClampNeg)) 0) dX5_leaves_34 ?_
  refine lv_iload_n C.1 C.2.1 dX5_leaves_37 rfl (kh_at hl 0 rfl) ?_
  refine lv_iconst (v := (-1 : Int32)) C.1 C.2.1 dX5_leaves_38 (by decide) ?_
  refine kh_iast C hw hS 29 rfl (kh_z29 (kh_up (kh_up (kh_up ρ 35 0 0 x1.toNatClampNeg x2) 26 0 0 (ρ 36 0 0 x1.toNatClampNeg).toNatClampNeg (2 : Int32)) 27 0 0 (ρ 36 0 0 x1.toNatClampNeg).toNatClampNeg ((kh_up (kh_up ρ 35 0 0 x1.toNatClampNeg x2) 26 0 0 (ρ 36 0 0 x1.toNatClampNeg).toNatClampNeg (2 : Int32)) 38 0 0 x1.toNatClampNeg))) (by decide) kh_kd29 g_2 dX5_leaves_39 (fun H locs hw hS => ?_)
  exact W.vret C.1 C.2.1 hr (fun t ht hW => ⟨⟨kh_up (kh_up (kh_up (kh_up ρ 35 0 0 x1.toNatClampNeg x2) 26 0 0 (ρ 36 0 0 x1.toNatClampNeg).toNatClampNeg (2 : Int32)) 27 0 0 (ρ 36 0 0 x1.toNatClampNeg).toNatClampNeg ((kh_up (kh_up ρ 35 0 0 x1.toNatClampNeg x2) 26 0 0 (ρ 36 0 0 x1.toNatClampNeg).toNatClampNeg (2 : Int32)) 38 0 0 x1.toNatClampNeg)) 29 0 0 (ρ 36 0 0 x1.toNatClampNeg).toNatClampNeg (-1 : Int32), rfl, hF0.trans hF.symm, kh_bk ht hw⟩, hS.F ht⟩) hS.2.2 dX5_leaves_40

def f_X5_prop_L149 (ρ_149 : kh_S) (x4_149 : Int32) : Option (Int32 × kh_S) := some (x4_149, ρ_149)
def f_X5_prop_L143 (x2_c77 : Int32) (x3_c77 : Int32) (ρ_143 : kh_S) (x4_143 : Int32) (x5_143 : Int32) : Option ((kh_S × Int32 × Int32) ⊕ (kh_S × Int32)) := some (.inl (ρ_143, x4_143, x5_143 + (1 : Int32)))
def f_X5_prop_B77 (x2_c77 : Int32) (x3_c77 : Int32) (σ_77 : kh_S) (y4_77 : Int32) (y5_77 : Int32) : Option ((kh_S × Int32 × Int32) ⊕ (kh_S × Int32)) := if (σ_77 15 3 0 0) ≤ y5_77 then some (.inr (σ_77, y4_77)) else if x2_c77 = 0 then some (.inr (σ_77, y4_77)) else if x3_c77 = 0 then kh_gd (kh_in y5_77 4) (if (σ_77 26 0 0 y5_77.toNatClampNeg) = (1 : Int32) then kh_gd (kh_in (σ_77 29 0 0 y5_77.toNatClampNeg) 30) (kh_bd (f_X5_hadOf σ_77 y5_77 (σ_77 37 0 0 (σ_77 29 0 0 y5_77.toNatClampNeg).toNatClampNeg)) (fun r_7 => if (r_7 &&& (1 : Int32)) = 0 then kh_bd (f_X5_leaves σ_77 (σ_77 29 0 0 y5_77.toNatClampNeg) (3 : Int32)) (fun ρ_9 => f_X5_prop_L143 x2_c77 x3_c77 ρ_9 (y4_77 + (1 : Int32)) y5_77) else f_X5_prop_L143 x2_c77 x3_c77 σ_77 y4_77 y5_77)) else f_X5_prop_L143 x2_c77 x3_c77 σ_77 y4_77 y5_77) else some (.inr (σ_77, y4_77))
def f_X5_prop_A77 (x2_c77 : Int32) (x3_c77 : Int32) : (kh_S × Int32) → Option (Int32 × kh_S) := (fun u : kh_S × Int32 => f_X5_prop_L149 u.1 u.2)
def f_X5_prop_L68 (ρ_68 : kh_S) (x2_68 : Int32) (x3_68 : Int32) (t1_68 : Int32) : Option (Int32 × kh_S) := kh_bd (kh_lp (fun a : kh_S × Int32 × Int32 => f_X5_prop_B77 x2_68 x3_68 a.1 a.2.1 a.2.2) 9999 (kh_up ρ_68 15 2 0 0 t1_68, (0 : Int32), (0 : Int32))) (f_X5_prop_A77 x2_68 x3_68)
def f_X5_prop_L41 (ρ_41 : kh_S) (x1_41 : Int32) (x2_41 : Int32) (t0_41 : Int32) : Option (Int32 × kh_S) := if x2_41 = 0 then f_X5_prop_L68 ρ_41 x2_41 t0_41 ((ρ_41 15 2 0 0) &&& (((1 : Int32) <<< (x1_41 &&& 31)) ^^^ (-1 : Int32))) else f_X5_prop_L68 ρ_41 x2_41 t0_41 ((ρ_41 15 2 0 0) ||| ((1 : Int32) <<< (x1_41 &&& 31)))
def f_X5_prop_L16 (ρ_16 : kh_S) (x1_16 : Int32) (x2_16 : Int32) (t1_16 : Int32) : Option (Int32 × kh_S) := kh_bd2 (f_X5_refused ρ_16 t1_16) (fun r_11 ρ_11 => if r_11 = 0 then if (((ρ_11 15 2 0 0) >>> (x1_16 &&& 31)) &&& (1 : Int32)) = (1 : Int32) then f_X5_prop_L41 ρ_11 x1_16 x2_16 (1 : Int32) else f_X5_prop_L41 ρ_11 x1_16 x2_16 (0 : Int32) else some ((0 : Int32), ρ_11))
def f_X5_prop (ρ : kh_S) (x1 : Int32) (x2 : Int32) : Option (Int32 × kh_S) := kh_bd (f_X5_in ρ x1 (0 : Int32) (7 : Int32)) (fun r_14 => if r_14 = 0 then f_X5_prop_L16 ρ x1 x2 (1 : Int32) else f_X5_prop_L16 ρ x1 x2 (0 : Int32))
set_option maxHeartbeats 4000000 in
set_option maxRecDepth 100000 in
theorem c_X5_prop (l : Launch) (D : va_G) (ca : Nat → ClassId) (A : Nat → Prop) (ad : Nat → Nat → Nat) (ρ : kh_S) (x1 : Int32) (x2 : Int32) {q0 : Int32 × kh_S} (hF0 : f_X5_prop ρ x1 x2 = some q0) : Met l yX5_prop wsX5_prop ({ frames := 2, cells := 0, slots := 0, locals := 46 } : Room) (va_Pc [.ref (ad 15 0), .int x1, .int x2] (kh_I D ca A ad ρ)) (kh_Qi D ca A ad (f_X5_prop ρ x1 x2)) 0 0 A := by
  refine Met.ofW (cc := cX5_prop) (maxL := 6) (ret := (some .int)) (by decide) rfl ?_
  intro p e s m args below meth c s₁ B hml hv
  obtain ⟨rfl, hK, hw, hA⟩ := hv
  have C : kh_C p s m ([.ref (ad 15 0), .int x1, .int x2]).toArray c cX5_prop 6 RX5 wsX5_prop D ca A := ⟨B.exec, B.bytes, hml, findClass_of_methodNamed B.named, atoms_spec (ws := wsX5_prop) B.pre, hK, hA⟩
  have hr := B.returns
  have hlocks := B.notSynchronized
  have hS : va_S A s.heap s.heap [] := va_S.rf
  have hl := kh_entry ([.ref (ad 15 0), .int x1, .int x2]) (n := 6) (kh_ac rfl (kh_ac rfl (kh_ac rfl kh_an))) (Nat.le_of_ble_eq_true rfl)
  rw [lg_entry_eq]
  generalize (lg_sl ([.ref (ad 15 0), .int x1, .int x2]) ++ List.replicate (6 - (lg_sl ([.ref (ad 15 0), .int x1, .int x2])).length) Slot.unset).toArray = ls at hl ⊢
  have hl : kh_lv ls 6 [(0, .ref (ad 15 0)), (1, .int x1), (2, .int x2)] := hl
  have k_96 := C.2.2.2.2.1 (.fieldLink RX5 96 "KeylessHallModel" "rooms" "I") (by decide +kernel)
  have k_16 := C.2.2.2.2.1 (.fieldLink RX5 16 "KeylessHallModel" "state" "[I") (by decide +kernel)
  have k_46 := C.2.2.2.2.1 (.fieldLink RX5 46 "KeylessHallModel" "holds" "[I") (by decide +kernel)
  have k_25 := C.2.2.2.2.1 (.fieldLink RX5 25 "KeylessHallModel" "groupIn" "[I") (by decide +kernel)
  have k_109 := C.2.2.2.2.1 (.fieldLink RX5 109 "KeylessHallModel" "broken" "I") (by decide +kernel)
  have hF := hF0
  unfold f_X5_prop at hF
  have wL149 : ∀ (ρ_149 : kh_S) (x4_149 : Int32) (H : Heap) (locs : List Loc) (ls : Array Slot), f_X5_prop_L149 ρ_149 x4_149 = some q0 → kh_w D ca A ad ρ_149 H → va_S A s.heap H locs → kh_lv ls 6 [(4, .int x4_149)] → W p l e (headSpec wsX5_prop ({ frames := 2, cells := 0, slots := 0, locals := 46 } : Room)).room s m ([.ref (ad 15 0), .int x1, .int x2]).toArray below meth c H locs 0 0 (MQ below (kh_Qi D ca A ad (f_X5_prop ρ x1 x2)) ([.ref (ad 15 0), .int x1, .int x2]).toArray s 0 0 A) (F0 m 149 ls []) := by
    intro ρ_149 x4_149 H locs ls hF hw hS hl
    unfold f_X5_prop_L149 at hF
    refine lv_iload C.1 C.2.1 dX5_prop_149 (kh_at hl 0 rfl) ?_
    exact W.iret (v := x4_149) C.1 C.2.1 hr (fun t ht hW => ⟨⟨x4_149, ρ_149, rfl, hF0.trans hF.symm, kh_bk ht hw⟩, hS.F ht⟩) hS.2.2 dX5_prop_151
  have wB77 : ∀ (x2_c77 : Int32) (x3_c77 : Int32) (b : kh_S × Int32), f_X5_prop_A77 x2_c77 x3_c77 b = some q0 → ∀ (n : Nat) (σ_77 : kh_S) (y4_77 : Int32) (y5_77 : Int32) (H : Heap) (locs : List Loc) (ls : Array Slot), kh_lp (fun a : kh_S × Int32 × Int32 => f_X5_prop_B77 x2_c77 x3_c77 a.1 a.2.1 a.2.2) n (σ_77, y4_77, y5_77) = some b → kh_w D ca A ad σ_77 H → va_S A s.heap H locs → kh_lv ls 6 [(0, .ref (ad 15 0)), (2, .int x2_c77), (3, .int x3_c77), (4, .int y4_77), (5, .int y5_77)] → W p l e (headSpec wsX5_prop ({ frames := 2, cells := 0, slots := 0, locals := 46 } : Room)).room s m ([.ref (ad 15 0), .int x1, .int x2]).toArray below meth c H locs 0 0 (MQ below (kh_Qi D ca A ad (f_X5_prop ρ x1 x2)) ([.ref (ad 15 0), .int x1, .int x2]).toArray s 0 0 A) (F0 m 77 ls []) := by
    intro x2_c77 x3_c77 b hA_77 n
    induction n with
    | zero => intro σ_77 y4_77 y5_77 H locs ls h9; exact absurd h9 (fun z => nomatch z)
    | succ n ih_77 =>
      intro σ_77 y4_77 y5_77 H locs ls hb_77 hw hS hl
      obtain ⟨q_77, hF, hb_77⟩ := kh_lp_ok hb_77
      have hF : f_X5_prop_B77 x2_c77 x3_c77 σ_77 y4_77 y5_77 = some q_77 := hF
      have wL143 : ∀ (ρ_143 : kh_S) (x4_143 : Int32) (x5_143 : Int32) (H : Heap) (locs : List Loc) (ls : Array Slot), f_X5_prop_L143 x2_c77 x3_c77 ρ_143 x4_143 x5_143 = some q_77 → kh_w D ca A ad ρ_143 H → va_S A s.heap H locs → kh_lv ls 6 [(0, .ref (ad 15 0)), (2, .int x2_c77), (3, .int x3_c77), (4, .int x4_143), (5, .int x5_143)] → W p l e (headSpec wsX5_prop ({ frames := 2, cells := 0, slots := 0, locals := 46 } : Room)).room s m ([.ref (ad 15 0), .int x1, .int x2]).toArray below meth c H locs 0 0 (MQ below (kh_Qi D ca A ad (f_X5_prop ρ x1 x2)) ([.ref (ad 15 0), .int x1, .int x2]).toArray s 0 0 A) (F0 m 143 ls []) := by
        intro ρ_143 x4_143 x5_143 H locs ls hF hw hS hl
        unfold f_X5_prop_L143 at hF
        refine kh_iinc (v := x5_143 + (1 : Int32)) (lv' := [(5, .int (x5_143 + (1 : Int32))), (0, .ref (ad 15 0)), (2, .int x2_c77), (3, .int x3_c77), (4, .int x4_143)]) C.1 C.2.1 dX5_prop_143 hl (k := 4) rfl (by rfl) (by decide) rfl (fun ls hl => ?_)
        refine lv_goto (tgt := 77) C.1 C.2.1 dX5_prop_146 (by decide) ?_
        have e9 := Option.some.inj hF
        rcases hb_77 with ⟨a9, h8, h9⟩ | h8
        · have h7 := Sum.inl.inj (e9.trans h8)
          subst h7
          exact ih_77 _ _ _ _ _ _ h9 hw hS (kh_sub hl [1, 2, 3, 4, 0] rfl)
        · exact absurd (e9.trans h8) (fun z => nomatch z)
      unfold f_X5_prop_B77 at hF
      refine lv_iload C.1 C.2.1 dX5_prop_77 (kh_at hl 4 rfl) ?_
      refine lv_aload_n C.1 C.2.1 dX5_prop_79 rfl (kh_at hl 0 rfl) ?_
      refine kh_get C hw 15 3 rfl (kh_z15 σ_77) kh_kd15 (Cn := RX5) (T := TX5) (N := 33) rfl (Nat.le_of_ble_eq_true rfl) k_96 (kf_15_3 ad σ_77 0) dX5_prop_80 ?_
      refine lv_icmp_ge (tgt := 149) C.1 C.2.1 dX5_prop_83 (by decide) (fun c_1 => ?_) (fun c_1 => ?_)
      · have hF := kh_ift hF c_1
        have e9 := Option.some.inj hF
        rcases hb_77 with ⟨a9, h8, h9⟩ | h8
        · exact absurd (e9.trans h8) (fun z => nomatch z)
        have h7 := Sum.inr.inj (e9.trans h8)
        have hF := (congrArg (f_X5_prop_A77 x2_c77 x3_c77) h7).trans hA_77
        exact wL149 σ_77 y4_77 _ _ _ hF hw hS (kh_sub hl [3] rfl)
      · have hF := kh_iff hF c_1
        refine lv_iload_n C.1 C.2.1 dX5_prop_86 rfl (kh_at hl 1 rfl) ?_
        refine lv_if_eq (tgt := 149) C.1 C.2.1 dX5_prop_87 (by decide) (fun c_2 => ?_) (fun c_2 => ?_)
        · have hF := kh_ift hF c_2
          have e9 := Option.some.inj hF
          rcases hb_77 with ⟨a9, h8, h9⟩ | h8
          · exact absurd (e9.trans h8) (fun z => nomatch z)
          have h7 := Sum.inr.inj (e9.trans h8)
          have hF := (congrArg (f_X5_prop_A77 x2_c77 x3_c77) h7).trans hA_77
          exact wL149 σ_77 y4_77 _ _ _ hF hw hS (kh_sub hl [3] rfl)
        · have hF := kh_iff hF c_2
          refine lv_iload_n C.1 C.2.1 dX5_prop_90 rfl (kh_at hl 2 rfl) ?_
          refine lv_if_ne (tgt := 149) C.1 C.2.1 dX5_prop_91 (by decide) (fun c_3 => ?_) (fun c_3 => ?_)
          · have hF := kh_iff hF c_3
            have e9 := Option.some.inj hF
            rcases hb_77 with ⟨a9, h8, h9⟩ | h8
            · exact absurd (e9.trans h8) (fun z => nomatch z)
            have h7 := Sum.inr.inj (e9.trans h8)
            have hF := (congrArg (f_X5_prop_A77 x2_c77 x3_c77) h7).trans hA_77
            exact wL149 σ_77 y4_77 _ _ _ hF hw hS (kh_sub hl [3] rfl)
          · have hF := kh_ift hF c_3
            refine lv_aload_n C.1 C.2.1 dX5_prop_94 rfl (kh_at hl 0 rfl) ?_
            refine kh_get C hw 15 6 rfl (kh_z15 σ_77) kh_kd15 (Cn := RX5) (T := TX5) (N := 33) rfl (Nat.le_of_ble_eq_true rfl) k_16 (kf_15_6 ad σ_77 0) dX5_prop_95 ?_
            refine lv_iload C.1 C.2.1 dX5_prop_98 (kh_at hl 4 rfl) ?_
            obtain ⟨g_4, hF⟩ := kh_gd_ok hF
            refine kh_iald C hw 26 rfl (kh_z26 σ_77) kh_kd26 g_4 dX5_prop_100 ?_
            refine lv_iconst (v := (1 : Int32)) C.1 C.2.1 dX5_prop_101 (by decide) ?_
            refine lv_icmp_ne (tgt := 143) C.1 C.2.1 dX5_prop_102 (by decide) (fun c_5 => ?_) (fun c_5 => ?_)
            · have hF := kh_iff hF c_5
              exact wL143 σ_77 y4_77 y5_77 _ _ _ hF hw hS (kh_sub hl [0, 1, 2, 3, 4] rfl)
            · have hF := kh_ift hF c_5
              refine lv_aload_n C.1 C.2.1 dX5_prop_105 rfl (kh_at hl 0 rfl) ?_
              refine lv_iload C.1 C.2.1 dX5_prop_106 (kh_at hl 4 rfl) ?_
              refine lv_aload_n C.1 C.2.1 dX5_prop_108 rfl (kh_at hl 0 rfl) ?_
              refine kh_get C hw 15 17 rfl (kh_z15 σ_77) kh_kd15 (Cn := RX5) (T := TX5) (N := 33) rfl (Nat.le_of_ble_eq_true rfl) k_46 (kf_15_17 ad σ_77 0) dX5_prop_109 ?_
              refine lv_aload_n C.1 C.2.1 dX5_prop_112 rfl (kh_at hl 0 rfl) ?_
              refine kh_get C hw 15 9 rfl (kh_z15 σ_77) kh_kd15 (Cn := RX5) (T := TX5) (N := 33) rfl (Nat.le_of_ble_eq_true rfl) k_25 (kf_15_9 ad σ_77 0) dX5_prop_113 ?_
              refine lv_iload C.1 C.2.1 dX5_prop_116 (kh_at hl 4 rfl) ?_
              refine kh_iald C hw 29 rfl (kh_z29 σ_77) kh_kd29 g_4 dX5_prop_118 ?_
              obtain ⟨g_6, hF⟩ := kh_gd_ok hF
              refine kh_iald C hw 37 rfl (kh_z37 σ_77) kh_kd37 g_6 dX5_prop_119 ?_
              obtain ⟨r_7, h_7, hF⟩ := kh_bd_ok hF
              refine kh_calli (va_runV (As := [.int y5_77, .int (σ_77 37 0 0 (σ_77 29 0 0 y5_77.toNatClampNeg).toNatClampNeg)]) (rest := []) ⟨C.1, C.2.1, C.2.2.1, C.2.2.2.1, C.2.2.2.2.1⟩ (c_X5_hadOf l D ca A ad σ_77 y5_77 (σ_77 37 0 0 (σ_77 29 0 0 y5_77.toNatClampNeg).toNatClampNeg) h_7) (cwV 2 C.2.2.2.2.1 gX5_prop_X5_hadOf rfl rfl rfl (by decide +kernel) ⟨Nat.le_of_ble_eq_true rfl, Nat.le_of_ble_eq_true rfl⟩) (kh_preV C hw hS 15 (kh_z15 σ_77) kh_kd15 rfl) rfl rfl hl.1.1 rfl (lv_room (kh_sum kh_an (Nat.le_of_ble_eq_true rfl))) dX5_prop_120 ⟨Nat.le_of_ble_eq_true rfl, Nat.le_of_ble_eq_true rfl⟩) hS (kh_mp h_7) (fun H locs hw hS => ?_)
              refine lv_iconst (v := (1 : Int32)) C.1 C.2.1 dX5_prop_123 (by decide) ?_
              refine lv_iand C.1 C.2.1 dX5_prop_124 ?_
              refine lv_if_ne (tgt := 143) C.1 C.2.1 dX5_prop_125 (by decide) (fun c_8 => ?_) (fun c_8 => ?_)
              · have hF := kh_iff hF c_8
                exact wL143 σ_77 y4_77 y5_77 _ _ _ hF hw hS (kh_sub hl [0, 1, 2, 3, 4] rfl)
              · have hF := kh_ift hF c_8
                refine lv_aload_n C.1 C.2.1 dX5_prop_128 rfl (kh_at hl 0 rfl) ?_
                refine lv_aload_n C.1 C.2.1 dX5_prop_129 rfl (kh_at hl 0 rfl) ?_
                refine kh_get C hw 15 9 rfl (kh_z15 σ_77) kh_kd15 (Cn := RX5) (T := TX5) (N := 33) rfl (Nat.le_of_ble_eq_true rfl) k_25 (kf_15_9 ad σ_77 0) dX5_prop_130 ?_
                refine lv_iload C.1 C.2.1 dX5_prop_133 (kh_at hl 4 rfl) ?_
                refine kh_iald C hw 29 rfl (kh_z29 σ_77) kh_kd29 g_4 dX5_prop_135 ?_
                refine lv_iconst (v := (3 : Int32)) C.1 C.2.1 dX5_prop_136 (by decide) ?_
                obtain ⟨ρ_9, h_9, hF⟩ := kh_bd_ok hF
                refine kh_callv (va_runV (As := [.int (σ_77 29 0 0 y5_77.toNatClampNeg), .int (3 : Int32)]) (rest := []) ⟨C.1, C.2.1, C.2.2.1, C.2.2.2.1, C.2.2.2.2.1⟩ (c_X5_leaves l D ca A ad σ_77 (σ_77 29 0 0 y5_77.toNatClampNeg) (3 : Int32) h_9) (cwV 2 C.2.2.2.2.1 gX5_prop_X5_leaves rfl rfl rfl (by decide +kernel) ⟨Nat.le_of_ble_eq_true rfl, Nat.le_of_ble_eq_true rfl⟩) (kh_preV C hw hS 15 (kh_z15 σ_77) kh_kd15 rfl) rfl rfl hl.1.1 rfl (lv_room (kh_sum kh_an (Nat.le_of_ble_eq_true rfl))) dX5_prop_137 ⟨Nat.le_of_ble_eq_true rfl, Nat.le_of_ble_eq_true rfl⟩) hS h_9 (fun H locs hw hS => ?_)
                refine kh_iinc (v := y4_77 + (1 : Int32)) (lv' := [(4, .int (y4_77 + (1 : Int32))), (0, .ref (ad 15 0)), (2, .int x2_c77), (3, .int x3_c77), (5, .int y5_77)]) C.1 C.2.1 dX5_prop_140 hl (k := 3) rfl (by rfl) (by decide) rfl (fun ls hl => ?_)
                exact wL143 ρ_9 (y4_77 + (1 : Int32)) y5_77 _ _ _ hF hw hS (kh_sub hl [1, 2, 3, 0, 4] rfl)
  have wL68 : ∀ (ρ_68 : kh_S) (x2_68 : Int32) (x3_68 : Int32) (t1_68 : Int32) (H : Heap) (locs : List Loc) (ls : Array Slot), f_X5_prop_L68 ρ_68 x2_68 x3_68 t1_68 = some q0 → kh_w D ca A ad ρ_68 H → va_S A s.heap H locs → kh_lv ls 6 [(0, .ref (ad 15 0)), (2, .int x2_68), (3, .int x3_68)] → W p l e (headSpec wsX5_prop ({ frames := 2, cells := 0, slots := 0, locals := 46 } : Room)).room s m ([.ref (ad 15 0), .int x1, .int x2]).toArray below meth c H locs 0 0 (MQ below (kh_Qi D ca A ad (f_X5_prop ρ x1 x2)) ([.ref (ad 15 0), .int x1, .int x2]).toArray s 0 0 A) (F0 m 68 ls [.int t1_68, .ref (ad 15 0)]) := by
    intro ρ_68 x2_68 x3_68 t1_68 H locs ls hF hw hS hl
    unfold f_X5_prop_L68 at hF
    refine kh_putI C hw hS 15 2 rfl (kh_z15 ρ_68) kh_kd15 (by decide) (Cn := RX5) (T := TX5) (N := 33) rfl (Nat.le_of_ble_eq_true rfl) (kq_15_2) k_109 rfl (by decide +kernel) dX5_prop_68 (fun H locs hw hS => ?_)
    refine lv_iconst (v := (0 : Int32)) C.1 C.2.1 dX5_prop_71 (by decide) ?_
    refine kh_istore (lv' := [(4, .int (0 : Int32)), (0, .ref (ad 15 0)), (2, .int x2_68), (3, .int x3_68)]) C.1 C.2.1 dX5_prop_72 hl (by decide) rfl (fun ls hl => ?_)
    refine lv_iconst (v := (0 : Int32)) C.1 C.2.1 dX5_prop_74 (by decide) ?_
    refine kh_istore (lv' := [(5, .int (0 : Int32)), (4, .int (0 : Int32)), (0, .ref (ad 15 0)), (2, .int x2_68), (3, .int x3_68)]) C.1 C.2.1 dX5_prop_75 hl (by decide) rfl (fun ls hl => ?_)
    obtain ⟨b_77, hb_77, hF⟩ := kh_bd_ok hF
    exact wB77 x2_68 x3_68 b_77 hF _ (kh_up ρ_68 15 2 0 0 t1_68) (0 : Int32) (0 : Int32) _ _ _ hb_77 hw hS (kh_sub hl [2, 3, 4, 1, 0] rfl)
  have wL41 : ∀ (ρ_41 : kh_S) (x1_41 : Int32) (x2_41 : Int32) (t0_41 : Int32) (H : Heap) (locs : List Loc) (ls : Array Slot), f_X5_prop_L41 ρ_41 x1_41 x2_41 t0_41 = some q0 → kh_w D ca A ad ρ_41 H → va_S A s.heap H locs → kh_lv ls 6 [(0, .ref (ad 15 0)), (1, .int x1_41), (2, .int x2_41)] → W p l e (headSpec wsX5_prop ({ frames := 2, cells := 0, slots := 0, locals := 46 } : Room)).room s m ([.ref (ad 15 0), .int x1, .int x2]).toArray below meth c H locs 0 0 (MQ below (kh_Qi D ca A ad (f_X5_prop ρ x1 x2)) ([.ref (ad 15 0), .int x1, .int x2]).toArray s 0 0 A) (F0 m 41 ls [.int t0_41]) := by
    intro ρ_41 x1_41 x2_41 t0_41 H locs ls hF hw hS hl
    unfold f_X5_prop_L41 at hF
    refine kh_istore_n (lv' := [(3, .int t0_41), (0, .ref (ad 15 0)), (1, .int x1_41), (2, .int x2_41)]) C.1 C.2.1 dX5_prop_41 rfl hl (by decide) rfl (fun ls hl => ?_)
    refine lv_aload_n C.1 C.2.1 dX5_prop_42 rfl (kh_at hl 1 rfl) ?_
    refine lv_iload_n C.1 C.2.1 dX5_prop_43 rfl (kh_at hl 3 rfl) ?_
    refine lv_if_eq (tgt := 58) C.1 C.2.1 dX5_prop_44 (by decide) (fun c_10 => ?_) (fun c_10 => ?_)
    · have hF := kh_ift hF c_10
      refine lv_aload_n C.1 C.2.1 dX5_prop_58 rfl (kh_at hl 1 rfl) ?_
      refine kh_get C hw 15 2 rfl (kh_z15 ρ_41) kh_kd15 (Cn := RX5) (T := TX5) (N := 33) rfl (Nat.le_of_ble_eq_true rfl) k_109 (kf_15_2 ad ρ_41 0) dX5_prop_59 ?_
      refine lv_iconst (v := (1 : Int32)) C.1 C.2.1 dX5_prop_62 (by decide) ?_
      refine lv_iload_n C.1 C.2.1 dX5_prop_63 rfl (kh_at hl 2 rfl) ?_
      refine lv_ishl C.1 C.2.1 dX5_prop_64 ?_
      refine lv_iconst (v := (-1 : Int32)) C.1 C.2.1 dX5_prop_65 (by decide) ?_
      refine lv_ixor C.1 C.2.1 dX5_prop_66 ?_
      refine lv_iand C.1 C.2.1 dX5_prop_67 ?_
      exact wL68 ρ_41 x2_41 t0_41 ((ρ_41 15 2 0 0) &&& (((1 : Int32) <<< (x1_41 &&& 31)) ^^^ (-1 : Int32))) _ _ _ hF hw hS (kh_sub hl [1, 3, 0] rfl)
    · have hF := kh_iff hF c_10
      refine lv_aload_n C.1 C.2.1 dX5_prop_47 rfl (kh_at hl 1 rfl) ?_
      refine kh_get C hw 15 2 rfl (kh_z15 ρ_41) kh_kd15 (Cn := RX5) (T := TX5) (N := 33) rfl (Nat.le_of_ble_eq_true rfl) k_109 (kf_15_2 ad ρ_41 0) dX5_prop_48 ?_
      refine lv_iconst (v := (1 : Int32)) C.1 C.2.1 dX5_prop_51 (by decide) ?_
      refine lv_iload_n C.1 C.2.1 dX5_prop_52 rfl (kh_at hl 2 rfl) ?_
      refine lv_ishl C.1 C.2.1 dX5_prop_53 ?_
      refine lv_ior C.1 C.2.1 dX5_prop_54 ?_
      refine lv_goto (tgt := 68) C.1 C.2.1 dX5_prop_55 (by decide) ?_
      exact wL68 ρ_41 x2_41 t0_41 ((ρ_41 15 2 0 0) ||| ((1 : Int32) <<< (x1_41 &&& 31))) _ _ _ hF hw hS (kh_sub hl [1, 3, 0] rfl)
  have wL16 : ∀ (ρ_16 : kh_S) (x1_16 : Int32) (x2_16 : Int32) (t1_16 : Int32) (H : Heap) (locs : List Loc) (ls : Array Slot), f_X5_prop_L16 ρ_16 x1_16 x2_16 t1_16 = some q0 → kh_w D ca A ad ρ_16 H → va_S A s.heap H locs → kh_lv ls 6 [(0, .ref (ad 15 0)), (1, .int x1_16), (2, .int x2_16)] → W p l e (headSpec wsX5_prop ({ frames := 2, cells := 0, slots := 0, locals := 46 } : Room)).room s m ([.ref (ad 15 0), .int x1, .int x2]).toArray below meth c H locs 0 0 (MQ below (kh_Qi D ca A ad (f_X5_prop ρ x1 x2)) ([.ref (ad 15 0), .int x1, .int x2]).toArray s 0 0 A) (F0 m 16 ls [.int t1_16, .ref (ad 15 0)]) := by
    intro ρ_16 x1_16 x2_16 t1_16 H locs ls hF hw hS hl
    unfold f_X5_prop_L16 at hF
    obtain ⟨r_11, ρ_11, h_11, hF⟩ := kh_bd2_ok hF
    refine kh_calli (va_runV (As := [.int t1_16]) (rest := []) ⟨C.1, C.2.1, C.2.2.1, C.2.2.2.1, C.2.2.2.2.1⟩ (c_X5_refused l D ca A ad ρ_16 t1_16 h_11) (cwV 1 C.2.2.2.2.1 gX5_prop_X5_refused rfl rfl rfl (by decide +kernel) ⟨Nat.le_of_ble_eq_true rfl, Nat.le_of_ble_eq_true rfl⟩) (kh_preV C hw hS 15 (kh_z15 ρ_16) kh_kd15 rfl) rfl rfl hl.1.1 rfl (lv_room (kh_sum kh_an (Nat.le_of_ble_eq_true rfl))) dX5_prop_16 ⟨Nat.le_of_ble_eq_true rfl, Nat.le_of_ble_eq_true rfl⟩) hS h_11 (fun H locs hw hS => ?_)
    refine lv_if_eq (tgt := 24) C.1 C.2.1 dX5_prop_19 (by decide) (fun c_12 => ?_) (fun c_12 => ?_)
    · have hF := kh_ift hF c_12
      refine lv_aload_n C.1 C.2.1 dX5_prop_24 rfl (kh_at hl 0 rfl) ?_
      refine kh_get C hw 15 2 rfl (kh_z15 ρ_11) kh_kd15 (Cn := RX5) (T := TX5) (N := 33) rfl (Nat.le_of_ble_eq_true rfl) k_109 (kf_15_2 ad ρ_11 0) dX5_prop_25 ?_
      refine lv_iload_n C.1 C.2.1 dX5_prop_28 rfl (kh_at hl 1 rfl) ?_
      refine lv_ishr C.1 C.2.1 dX5_prop_29 ?_
      refine lv_iconst (v := (1 : Int32)) C.1 C.2.1 dX5_prop_30 (by decide) ?_
      refine lv_iand C.1 C.2.1 dX5_prop_31 ?_
      refine lv_iconst (v := (1 : Int32)) C.1 C.2.1 dX5_prop_32 (by decide) ?_
      refine lv_icmp_ne (tgt := 40) C.1 C.2.1 dX5_prop_33 (by decide) (fun c_13 => ?_) (fun c_13 => ?_)
      · have hF := kh_iff hF c_13
        refine lv_iconst (v := (0 : Int32)) C.1 C.2.1 dX5_prop_40 (by decide) ?_
        exact wL41 ρ_11 x1_16 x2_16 (0 : Int32) _ _ _ hF hw hS (kh_sub hl [0, 1, 2] rfl)
      · have hF := kh_ift hF c_13
        refine lv_iconst (v := (1 : Int32)) C.1 C.2.1 dX5_prop_36 (by decide) ?_
        refine lv_goto (tgt := 41) C.1 C.2.1 dX5_prop_37 (by decide) ?_
        exact wL41 ρ_11 x1_16 x2_16 (1 : Int32) _ _ _ hF hw hS (kh_sub hl [0, 1, 2] rfl)
    · have hF := kh_iff hF c_12
      refine lv_iconst (v := (0 : Int32)) C.1 C.2.1 dX5_prop_22 (by decide) ?_
      exact W.iret (v := (0 : Int32)) C.1 C.2.1 hr (fun t ht hW => ⟨⟨(0 : Int32), ρ_11, rfl, hF0.trans hF.symm, kh_bk ht hw⟩, hS.F ht⟩) hS.2.2 dX5_prop_23
  refine lv_aload_n C.1 C.2.1 dX5_prop_0 rfl (kh_at hl 0 rfl) ?_
  refine lv_iload_n C.1 C.2.1 dX5_prop_1 rfl (kh_at hl 1 rfl) ?_
  refine lv_iconst (v := (0 : Int32)) C.1 C.2.1 dX5_prop_2 (by decide) ?_
  refine lv_bipush (v := (7 : Int32)) C.1 C.2.1 dX5_prop_3 (by decide) ?_
  obtain ⟨r_14, h_14, hF⟩ := kh_bd_ok hF
  refine kh_calli (va_runS (As := [.int x1, .int (0 : Int32), .int (7 : Int32)]) (rest := [.ref (ad 15 0)]) ⟨C.1, C.2.1, C.2.2.1, C.2.2.2.1, C.2.2.2.2.1⟩ (c_X5_in l D ca A ad ρ x1 (0 : Int32) (7 : Int32) h_14) (va_cwS 3 C.2.2.2.2.1 gX5_prop_X5_in rfl rfl rfl (by decide +kernel) ⟨Nat.le_of_ble_eq_true rfl, Nat.le_of_ble_eq_true rfl⟩) (kh_preS C hw hS) rfl rfl hl.1.1 rfl (lv_room (kh_sum (kh_ac rfl kh_an) (Nat.le_of_ble_eq_true rfl))) dX5_prop_5 ⟨Nat.le_of_ble_eq_true rfl, Nat.le_of_ble_eq_true rfl⟩) hS (kh_mp h_14) (fun H locs hw hS => ?_)
  refine lv_if_eq (tgt := 15) C.1 C.2.1 dX5_prop_8 (by decide) (fun c_15 => ?_) (fun c_15 => ?_)
  · have hF := kh_ift hF c_15
    refine lv_iconst (v := (1 : Int32)) C.1 C.2.1 dX5_prop_15 (by decide) ?_
    exact wL16 ρ x1 x2 (1 : Int32) _ _ _ hF hw hS (kh_sub hl [0, 1, 2] rfl)
  · have hF := kh_iff hF c_15
    refine lv_iconst (v := (0 : Int32)) C.1 C.2.1 dX5_prop_11 (by decide) ?_
    refine lv_goto (tgt := 16) C.1 C.2.1 dX5_prop_12 (by decide) ?_
    exact wL16 ρ x1 x2 (0 : Int32) _ _ _ hF hw hS (kh_sub hl [0, 1, 2] rfl)

def f_X5_had_L45 (ρ_45 : kh_S) (t0_45 : Int32) : Option (Int32 × kh_S) := some (t0_45, ρ_45)
def f_X5_had_L29 (ρ_29 : kh_S) (x1_29 : Int32) (x2_29 : Int32) (t1_29 : Int32) : Option (Int32 × kh_S) := kh_bd2 (f_X5_refused ρ_29 t1_29) (fun r_1 ρ_1 => if r_1 = 0 then kh_bd (f_X5_hadOf ρ_1 x1_29 x2_29) (fun r_3 => f_X5_had_L45 ρ_1 r_3) else f_X5_had_L45 ρ_1 (0 : Int32))
def f_X5_had (ρ : kh_S) (x1 : Int32) (x2 : Int32) : Option (Int32 × kh_S) := kh_bd (f_X5_isRoom ρ x1) (fun r_4 => if r_4 = 0 then f_X5_had_L29 ρ x1 x2 (1 : Int32) else kh_bd (f_X5_in ρ x2 (0 : Int32) (4095 : Int32)) (fun r_6 => if r_6 = 0 then f_X5_had_L29 ρ x1 x2 (2 : Int32) else f_X5_had_L29 ρ x1 x2 (0 : Int32)))
set_option maxHeartbeats 4000000 in
set_option maxRecDepth 100000 in
theorem c_X5_had (l : Launch) (D : va_G) (ca : Nat → ClassId) (A : Nat → Prop) (ad : Nat → Nat → Nat) (ρ : kh_S) (x1 : Int32) (x2 : Int32) {q0 : Int32 × kh_S} (hF0 : f_X5_had ρ x1 x2 = some q0) : Met l yX5_had wsX5_had ({ frames := 2, cells := 0, slots := 0, locals := 46 } : Room) (va_Pc [.ref (ad 15 0), .int x1, .int x2] (kh_I D ca A ad ρ)) (kh_Qi D ca A ad (f_X5_had ρ x1 x2)) 0 0 A := by
  refine Met.ofW (cc := cX5_had) (maxL := 3) (ret := (some .int)) (by decide) rfl ?_
  intro p e s m args below meth c s₁ B hml hv
  obtain ⟨rfl, hK, hw, hA⟩ := hv
  have C : kh_C p s m ([.ref (ad 15 0), .int x1, .int x2]).toArray c cX5_had 3 RX5 wsX5_had D ca A := ⟨B.exec, B.bytes, hml, findClass_of_methodNamed B.named, atoms_spec (ws := wsX5_had) B.pre, hK, hA⟩
  have hr := B.returns
  have hlocks := B.notSynchronized
  have hS : va_S A s.heap s.heap [] := va_S.rf
  have hl := kh_entry ([.ref (ad 15 0), .int x1, .int x2]) (n := 3) (kh_ac rfl (kh_ac rfl (kh_ac rfl kh_an))) (Nat.le_of_ble_eq_true rfl)
  rw [lg_entry_eq]
  generalize (lg_sl ([.ref (ad 15 0), .int x1, .int x2]) ++ List.replicate (3 - (lg_sl ([.ref (ad 15 0), .int x1, .int x2])).length) Slot.unset).toArray = ls at hl ⊢
  have hl : kh_lv ls 3 [(0, .ref (ad 15 0)), (1, .int x1), (2, .int x2)] := hl
  have hF := hF0
  unfold f_X5_had at hF
  have wL45 : ∀ (ρ_45 : kh_S) (t0_45 : Int32) (H : Heap) (locs : List Loc) (ls : Array Slot), f_X5_had_L45 ρ_45 t0_45 = some q0 → kh_w D ca A ad ρ_45 H → va_S A s.heap H locs → kh_lv ls 3 [] → W p l e (headSpec wsX5_had ({ frames := 2, cells := 0, slots := 0, locals := 46 } : Room)).room s m ([.ref (ad 15 0), .int x1, .int x2]).toArray below meth c H locs 0 0 (MQ below (kh_Qi D ca A ad (f_X5_had ρ x1 x2)) ([.ref (ad 15 0), .int x1, .int x2]).toArray s 0 0 A) (F0 m 45 ls [.int t0_45]) := by
    intro ρ_45 t0_45 H locs ls hF hw hS hl
    unfold f_X5_had_L45 at hF
    exact W.iret (v := t0_45) C.1 C.2.1 hr (fun t ht hW => ⟨⟨t0_45, ρ_45, rfl, hF0.trans hF.symm, kh_bk ht hw⟩, hS.F ht⟩) hS.2.2 dX5_had_45
  have wL29 : ∀ (ρ_29 : kh_S) (x1_29 : Int32) (x2_29 : Int32) (t1_29 : Int32) (H : Heap) (locs : List Loc) (ls : Array Slot), f_X5_had_L29 ρ_29 x1_29 x2_29 t1_29 = some q0 → kh_w D ca A ad ρ_29 H → va_S A s.heap H locs → kh_lv ls 3 [(0, .ref (ad 15 0)), (1, .int x1_29), (2, .int x2_29)] → W p l e (headSpec wsX5_had ({ frames := 2, cells := 0, slots := 0, locals := 46 } : Room)).room s m ([.ref (ad 15 0), .int x1, .int x2]).toArray below meth c H locs 0 0 (MQ below (kh_Qi D ca A ad (f_X5_had ρ x1 x2)) ([.ref (ad 15 0), .int x1, .int x2]).toArray s 0 0 A) (F0 m 29 ls [.int t1_29, .ref (ad 15 0)]) := by
    intro ρ_29 x1_29 x2_29 t1_29 H locs ls hF hw hS hl
    unfold f_X5_had_L29 at hF
    obtain ⟨r_1, ρ_1, h_1, hF⟩ := kh_bd2_ok hF
    refine kh_calli (va_runV (As := [.int t1_29]) (rest := []) ⟨C.1, C.2.1, C.2.2.1, C.2.2.2.1, C.2.2.2.2.1⟩ (c_X5_refused l D ca A ad ρ_29 t1_29 h_1) (cwV 1 C.2.2.2.2.1 gX5_had_X5_refused rfl rfl rfl (by decide +kernel) ⟨Nat.le_of_ble_eq_true rfl, Nat.le_of_ble_eq_true rfl⟩) (kh_preV C hw hS 15 (kh_z15 ρ_29) kh_kd15 rfl) rfl rfl hl.1.1 rfl (lv_room (kh_sum kh_an (Nat.le_of_ble_eq_true rfl))) dX5_had_29 ⟨Nat.le_of_ble_eq_true rfl, Nat.le_of_ble_eq_true rfl⟩) hS h_1 (fun H locs hw hS => ?_)
    refine lv_if_eq (tgt := 39) C.1 C.2.1 dX5_had_32 (by decide) (fun c_2 => ?_) (fun c_2 => ?_)
    · have hF := kh_ift hF c_2
      refine lv_aload_n C.1 C.2.1 dX5_had_39 rfl (kh_at hl 0 rfl) ?_
      refine lv_iload_n C.1 C.2.1 dX5_had_40 rfl (kh_at hl 1 rfl) ?_
      refine lv_iload_n C.1 C.2.1 dX5_had_41 rfl (kh_at hl 2 rfl) ?_
      obtain ⟨r_3, h_3, hF⟩ := kh_bd_ok hF
      refine kh_calli (va_runV (As := [.int x1_29, .int x2_29]) (rest := []) ⟨C.1, C.2.1, C.2.2.1, C.2.2.2.1, C.2.2.2.2.1⟩ (c_X5_hadOf l D ca A ad ρ_1 x1_29 x2_29 h_3) (cwV 2 C.2.2.2.2.1 gX5_had_X5_hadOf rfl rfl rfl (by decide +kernel) ⟨Nat.le_of_ble_eq_true rfl, Nat.le_of_ble_eq_true rfl⟩) (kh_preV C hw hS 15 (kh_z15 ρ_1) kh_kd15 rfl) rfl rfl hl.1.1 rfl (lv_room (kh_sum kh_an (Nat.le_of_ble_eq_true rfl))) dX5_had_42 ⟨Nat.le_of_ble_eq_true rfl, Nat.le_of_ble_eq_true rfl⟩) hS (kh_mp h_3) (fun H locs hw hS => ?_)
      exact wL45 ρ_1 r_3 _ _ _ hF hw hS (kh_sub hl [] rfl)
    · have hF := kh_iff hF c_2
      refine lv_iconst (v := (0 : Int32)) C.1 C.2.1 dX5_had_35 (by decide) ?_
      refine lv_goto (tgt := 45) C.1 C.2.1 dX5_had_36 (by decide) ?_
      exact wL45 ρ_1 (0 : Int32) _ _ _ hF hw hS (kh_sub hl [] rfl)
  refine lv_aload_n C.1 C.2.1 dX5_had_0 rfl (kh_at hl 0 rfl) ?_
  refine lv_aload_n C.1 C.2.1 dX5_had_1 rfl (kh_at hl 0 rfl) ?_
  refine lv_iload_n C.1 C.2.1 dX5_had_2 rfl (kh_at hl 1 rfl) ?_
  obtain ⟨r_4, h_4, hF⟩ := kh_bd_ok hF
  refine kh_calli (va_runV (As := [.int x1]) (rest := [.ref (ad 15 0)]) ⟨C.1, C.2.1, C.2.2.1, C.2.2.2.1, C.2.2.2.2.1⟩ (c_X5_isRoom l D ca A ad ρ x1 h_4) (cwV 1 C.2.2.2.2.1 gX5_had_X5_isRoom rfl rfl rfl (by decide +kernel) ⟨Nat.le_of_ble_eq_true rfl, Nat.le_of_ble_eq_true rfl⟩) (kh_preV C hw hS 15 (kh_z15 ρ) kh_kd15 rfl) rfl rfl hl.1.1 rfl (lv_room (kh_sum (kh_ac rfl kh_an) (Nat.le_of_ble_eq_true rfl))) dX5_had_3 ⟨Nat.le_of_ble_eq_true rfl, Nat.le_of_ble_eq_true rfl⟩) hS (kh_mp h_4) (fun H locs hw hS => ?_)
  refine lv_if_ne (tgt := 13) C.1 C.2.1 dX5_had_6 (by decide) (fun c_5 => ?_) (fun c_5 => ?_)
  · have hF := kh_iff hF c_5
    refine lv_iload_n C.1 C.2.1 dX5_had_13 rfl (kh_at hl 2 rfl) ?_
    refine lv_iconst (v := (0 : Int32)) C.1 C.2.1 dX5_had_14 (by decide) ?_
    refine lv_sipush (v := (4095 : Int32)) C.1 C.2.1 dX5_had_15 (by decide) ?_
    obtain ⟨r_6, h_6, hF⟩ := kh_bd_ok hF
    refine kh_calli (va_runS (As := [.int x2, .int (0 : Int32), .int (4095 : Int32)]) (rest := [.ref (ad 15 0)]) ⟨C.1, C.2.1, C.2.2.1, C.2.2.2.1, C.2.2.2.2.1⟩ (c_X5_in l D ca A ad ρ x2 (0 : Int32) (4095 : Int32) h_6) (va_cwS 3 C.2.2.2.2.1 gX5_had_X5_in rfl rfl rfl (by decide +kernel) ⟨Nat.le_of_ble_eq_true rfl, Nat.le_of_ble_eq_true rfl⟩) (kh_preS C hw hS) rfl rfl hl.1.1 rfl (lv_room (kh_sum (kh_ac rfl kh_an) (Nat.le_of_ble_eq_true rfl))) dX5_had_18 ⟨Nat.le_of_ble_eq_true rfl, Nat.le_of_ble_eq_true rfl⟩) hS (kh_mp h_6) (fun H locs hw hS => ?_)
    refine lv_if_ne (tgt := 28) C.1 C.2.1 dX5_had_21 (by decide) (fun c_7 => ?_) (fun c_7 => ?_)
    · have hF := kh_iff hF c_7
      refine lv_iconst (v := (0 : Int32)) C.1 C.2.1 dX5_had_28 (by decide) ?_
      exact wL29 ρ x1 x2 (0 : Int32) _ _ _ hF hw hS (kh_sub hl [0, 1, 2] rfl)
    · have hF := kh_ift hF c_7
      refine lv_iconst (v := (2 : Int32)) C.1 C.2.1 dX5_had_24 (by decide) ?_
      refine lv_goto (tgt := 29) C.1 C.2.1 dX5_had_25 (by decide) ?_
      exact wL29 ρ x1 x2 (2 : Int32) _ _ _ hF hw hS (kh_sub hl [0, 1, 2] rfl)
  · have hF := kh_ift hF c_5
    refine lv_iconst (v := (1 : Int32)) C.1 C.2.1 dX5_had_9 (by decide) ?_
    refine lv_goto (tgt := 29) C.1 C.2.1 dX5_had_10 (by decide) ?_
    exact wL29 ρ x1 x2 (1 : Int32) _ _ _ hF hw hS (kh_sub hl [0, 1, 2] rfl)

def f_X5_canBeLeft_L33 (ρ_33 : kh_S) (t0_33 : Int32) : Option (Int32 × kh_S) := kh_gd (kh_b t0_33) (some (t0_33, ρ_33))
def f_X5_canBeLeft_L32 (ρ_32 : kh_S) : Option (Int32 × kh_S) := f_X5_canBeLeft_L33 ρ_32 (0 : Int32)
def f_X5_canBeLeft_L14 (ρ_14 : kh_S) (x1_14 : Int32) (t1_14 : Int32) : Option (Int32 × kh_S) := kh_bd2 (f_X5_refused ρ_14 t1_14) (fun r_2 ρ_2 => if r_2 = 0 then kh_bd (f_X5_isLeavable ρ_2 x1_14) (fun r_4 => if r_4 = 0 then f_X5_canBeLeft_L32 ρ_2 else f_X5_canBeLeft_L33 ρ_2 (1 : Int32)) else f_X5_canBeLeft_L32 ρ_2)
def f_X5_canBeLeft (ρ : kh_S) (x1 : Int32) : Option (Int32 × kh_S) := kh_bd (f_X5_isRoom ρ x1) (fun r_6 => if r_6 = 0 then f_X5_canBeLeft_L14 ρ x1 (1 : Int32) else f_X5_canBeLeft_L14 ρ x1 (0 : Int32))
set_option maxHeartbeats 4000000 in
set_option maxRecDepth 100000 in
theorem c_X5_canBeLeft (l : Launch) (D : va_G) (ca : Nat → ClassId) (A : Nat → Prop) (ad : Nat → Nat → Nat) (ρ : kh_S) (x1 : Int32) {q0 : Int32 × kh_S} (hF0 : f_X5_canBeLeft ρ x1 = some q0) : Met l yX5_canBeLeft wsX5_canBeLeft ({ frames := 3, cells := 0, slots := 0, locals := 67 } : Room) (va_Pc [.ref (ad 15 0), .int x1] (kh_I D ca A ad ρ)) (kh_Qi D ca A ad (f_X5_canBeLeft ρ x1)) 0 0 A := by
  refine Met.ofW (cc := cX5_canBeLeft) (maxL := 2) (ret := (some .boolean)) (by decide) rfl ?_
  intro p e s m args below meth c s₁ B hml hv
  obtain ⟨rfl, hK, hw, hA⟩ := hv
  have C : kh_C p s m ([.ref (ad 15 0), .int x1]).toArray c cX5_canBeLeft 2 RX5 wsX5_canBeLeft D ca A := ⟨B.exec, B.bytes, hml, findClass_of_methodNamed B.named, atoms_spec (ws := wsX5_canBeLeft) B.pre, hK, hA⟩
  have hr := B.returns
  have hlocks := B.notSynchronized
  have hS : va_S A s.heap s.heap [] := va_S.rf
  have hl := kh_entry ([.ref (ad 15 0), .int x1]) (n := 2) (kh_ac rfl (kh_ac rfl kh_an)) (Nat.le_of_ble_eq_true rfl)
  rw [lg_entry_eq]
  generalize (lg_sl ([.ref (ad 15 0), .int x1]) ++ List.replicate (2 - (lg_sl ([.ref (ad 15 0), .int x1])).length) Slot.unset).toArray = ls at hl ⊢
  have hl : kh_lv ls 2 [(0, .ref (ad 15 0)), (1, .int x1)] := hl
  have hF := hF0
  unfold f_X5_canBeLeft at hF
  have wL33 : ∀ (ρ_33 : kh_S) (t0_33 : Int32) (H : Heap) (locs : List Loc) (ls : Array Slot), f_X5_canBeLeft_L33 ρ_33 t0_33 = some q0 → kh_w D ca A ad ρ_33 H → va_S A s.heap H locs → kh_lv ls 2 [] → W p l e (headSpec wsX5_canBeLeft ({ frames := 3, cells := 0, slots := 0, locals := 67 } : Room)).room s m ([.ref (ad 15 0), .int x1]).toArray below meth c H locs 0 0 (MQ below (kh_Qi D ca A ad (f_X5_canBeLeft ρ x1)) ([.ref (ad 15 0), .int x1]).toArray s 0 0 A) (F0 m 33 ls [.int t0_33]) := by
    intro ρ_33 t0_33 H locs ls hF hw hS hl
    unfold f_X5_canBeLeft_L33 at hF
    obtain ⟨g_1, hF⟩ := kh_gd_ok hF
    exact W.zret (v := t0_33) (ty := .boolean) C.1 C.2.1 hr (kh_b_ok g_1).1 (fun t ht hW => ⟨⟨t0_33, ρ_33, rfl, hF0.trans hF.symm, kh_bk ht hw⟩, hS.F ht⟩) hS.2.2 dX5_canBeLeft_33
  have wL32 : ∀ (ρ_32 : kh_S) (H : Heap) (locs : List Loc) (ls : Array Slot), f_X5_canBeLeft_L32 ρ_32 = some q0 → kh_w D ca A ad ρ_32 H → va_S A s.heap H locs → kh_lv ls 2 [] → W p l e (headSpec wsX5_canBeLeft ({ frames := 3, cells := 0, slots := 0, locals := 67 } : Room)).room s m ([.ref (ad 15 0), .int x1]).toArray below meth c H locs 0 0 (MQ below (kh_Qi D ca A ad (f_X5_canBeLeft ρ x1)) ([.ref (ad 15 0), .int x1]).toArray s 0 0 A) (F0 m 32 ls []) := by
    intro ρ_32 H locs ls hF hw hS hl
    unfold f_X5_canBeLeft_L32 at hF
    refine lv_iconst (v := (0 : Int32)) C.1 C.2.1 dX5_canBeLeft_32 (by decide) ?_
    exact wL33 ρ_32 (0 : Int32) _ _ _ hF hw hS (kh_sub hl [] rfl)
  have wL14 : ∀ (ρ_14 : kh_S) (x1_14 : Int32) (t1_14 : Int32) (H : Heap) (locs : List Loc) (ls : Array Slot), f_X5_canBeLeft_L14 ρ_14 x1_14 t1_14 = some q0 → kh_w D ca A ad ρ_14 H → va_S A s.heap H locs → kh_lv ls 2 [(0, .ref (ad 15 0)), (1, .int x1_14)] → W p l e (headSpec wsX5_canBeLeft ({ frames := 3, cells := 0, slots := 0, locals := 67 } : Room)).room s m ([.ref (ad 15 0), .int x1]).toArray below meth c H locs 0 0 (MQ below (kh_Qi D ca A ad (f_X5_canBeLeft ρ x1)) ([.ref (ad 15 0), .int x1]).toArray s 0 0 A) (F0 m 14 ls [.int t1_14, .ref (ad 15 0)]) := by
    intro ρ_14 x1_14 t1_14 H locs ls hF hw hS hl
    unfold f_X5_canBeLeft_L14 at hF
    obtain ⟨r_2, ρ_2, h_2, hF⟩ := kh_bd2_ok hF
    refine kh_calli (va_runV (As := [.int t1_14]) (rest := []) ⟨C.1, C.2.1, C.2.2.1, C.2.2.2.1, C.2.2.2.2.1⟩ (c_X5_refused l D ca A ad ρ_14 t1_14 h_2) (cwV 1 C.2.2.2.2.1 gX5_canBeLeft_X5_refused rfl rfl rfl (by decide +kernel) ⟨Nat.le_of_ble_eq_true rfl, Nat.le_of_ble_eq_true rfl⟩) (kh_preV C hw hS 15 (kh_z15 ρ_14) kh_kd15 rfl) rfl rfl hl.1.1 rfl (lv_room (kh_sum kh_an (Nat.le_of_ble_eq_true rfl))) dX5_canBeLeft_14 ⟨Nat.le_of_ble_eq_true rfl, Nat.le_of_ble_eq_true rfl⟩) hS h_2 (fun H locs hw hS => ?_)
    refine lv_if_ne (tgt := 32) C.1 C.2.1 dX5_canBeLeft_17 (by decide) (fun c_3 => ?_) (fun c_3 => ?_)
    · have hF := kh_iff hF c_3
      exact wL32 ρ_2 _ _ _ hF hw hS (kh_sub hl [] rfl)
    · have hF := kh_ift hF c_3
      refine lv_aload_n C.1 C.2.1 dX5_canBeLeft_20 rfl (kh_at hl 0 rfl) ?_
      refine lv_iload_n C.1 C.2.1 dX5_canBeLeft_21 rfl (kh_at hl 1 rfl) ?_
      obtain ⟨r_4, h_4, hF⟩ := kh_bd_ok hF
      refine kh_calli (va_runV (As := [.int x1_14]) (rest := []) ⟨C.1, C.2.1, C.2.2.1, C.2.2.2.1, C.2.2.2.2.1⟩ (c_X5_isLeavable l D ca A ad ρ_2 x1_14 h_4) (cwV 1 C.2.2.2.2.1 gX5_canBeLeft_X5_isLeavable rfl rfl rfl (by decide +kernel) ⟨Nat.le_of_ble_eq_true rfl, Nat.le_of_ble_eq_true rfl⟩) (kh_preV C hw hS 15 (kh_z15 ρ_2) kh_kd15 rfl) rfl rfl hl.1.1 rfl (lv_room (kh_sum kh_an (Nat.le_of_ble_eq_true rfl))) dX5_canBeLeft_22 ⟨Nat.le_of_ble_eq_true rfl, Nat.le_of_ble_eq_true rfl⟩) hS (kh_mp h_4) (fun H locs hw hS => ?_)
      refine lv_if_eq (tgt := 32) C.1 C.2.1 dX5_canBeLeft_25 (by decide) (fun c_5 => ?_) (fun c_5 => ?_)
      · have hF := kh_ift hF c_5
        exact wL32 ρ_2 _ _ _ hF hw hS (kh_sub hl [] rfl)
      · have hF := kh_iff hF c_5
        refine lv_iconst (v := (1 : Int32)) C.1 C.2.1 dX5_canBeLeft_28 (by decide) ?_
        refine lv_goto (tgt := 33) C.1 C.2.1 dX5_canBeLeft_29 (by decide) ?_
        exact wL33 ρ_2 (1 : Int32) _ _ _ hF hw hS (kh_sub hl [] rfl)
  refine lv_aload_n C.1 C.2.1 dX5_canBeLeft_0 rfl (kh_at hl 0 rfl) ?_
  refine lv_aload_n C.1 C.2.1 dX5_canBeLeft_1 rfl (kh_at hl 0 rfl) ?_
  refine lv_iload_n C.1 C.2.1 dX5_canBeLeft_2 rfl (kh_at hl 1 rfl) ?_
  obtain ⟨r_6, h_6, hF⟩ := kh_bd_ok hF
  refine kh_calli (va_runV (As := [.int x1]) (rest := [.ref (ad 15 0)]) ⟨C.1, C.2.1, C.2.2.1, C.2.2.2.1, C.2.2.2.2.1⟩ (c_X5_isRoom l D ca A ad ρ x1 h_6) (cwV 1 C.2.2.2.2.1 gX5_canBeLeft_X5_isRoom rfl rfl rfl (by decide +kernel) ⟨Nat.le_of_ble_eq_true rfl, Nat.le_of_ble_eq_true rfl⟩) (kh_preV C hw hS 15 (kh_z15 ρ) kh_kd15 rfl) rfl rfl hl.1.1 rfl (lv_room (kh_sum (kh_ac rfl kh_an) (Nat.le_of_ble_eq_true rfl))) dX5_canBeLeft_3 ⟨Nat.le_of_ble_eq_true rfl, Nat.le_of_ble_eq_true rfl⟩) hS (kh_mp h_6) (fun H locs hw hS => ?_)
  refine lv_if_eq (tgt := 13) C.1 C.2.1 dX5_canBeLeft_6 (by decide) (fun c_7 => ?_) (fun c_7 => ?_)
  · have hF := kh_ift hF c_7
    refine lv_iconst (v := (1 : Int32)) C.1 C.2.1 dX5_canBeLeft_13 (by decide) ?_
    exact wL14 ρ x1 (1 : Int32) _ _ _ hF hw hS (kh_sub hl [0, 1] rfl)
  · have hF := kh_iff hF c_7
    refine lv_iconst (v := (0 : Int32)) C.1 C.2.1 dX5_canBeLeft_9 (by decide) ?_
    refine lv_goto (tgt := 14) C.1 C.2.1 dX5_canBeLeft_10 (by decide) ?_
    exact wL14 ρ x1 (0 : Int32) _ _ _ hF hw hS (kh_sub hl [0, 1] rfl)

def f_X5_heldBy_L54 (ρ : kh_S) (x4_54 : Int32) : Option (Int32) := some x4_54
def f_X5_heldBy_L45 (ρ : kh_S) (x1_c6 : Int32) (x3_c6 : Int32) (x5_45 : Int32) (t0_45 : Int32) (t1_45 : Int32) : Option ((Int32 × Int32) ⊕ (Int32)) := some (.inl (t0_45 ||| t1_45, x5_45 + (1 : Int32)))
def f_X5_heldBy_B6 (ρ : kh_S) (x1_c6 : Int32) (x3_c6 : Int32) (y4_6 : Int32) (y5_6 : Int32) : Option ((Int32 × Int32) ⊕ (Int32)) := kh_gd (kh_in x1_c6 4) (if (ρ 25 0 0 x1_c6.toNatClampNeg) ≤ y5_6 then some (.inr y4_6) else if ((x3_c6 >>> (y5_6 &&& 31)) &&& (1 : Int32)) = (1 : Int32) then kh_gd (kh_in (((8 : Int32) * x1_c6) + y5_6) 32) (f_X5_heldBy_L45 ρ x1_c6 x3_c6 y5_6 y4_6 (ρ 31 0 0 (((8 : Int32) * x1_c6) + y5_6).toNatClampNeg)) else f_X5_heldBy_L45 ρ x1_c6 x3_c6 y5_6 y4_6 (0 : Int32))
def f_X5_heldBy_A6 (ρ : kh_S) (x1_c6 : Int32) (x3_c6 : Int32) : (Int32) → Option (Int32) := (fun u : Int32 => f_X5_heldBy_L54 ρ u)
def f_X5_heldBy (ρ : kh_S) (x1 : Int32) (x2 : Int32) (x3 : Int32) : Option (Int32) := kh_bd (kh_lp (fun a : Int32 × Int32 => f_X5_heldBy_B6 ρ x1 x3 a.1 a.2) 9999 (x2, (0 : Int32))) (f_X5_heldBy_A6 ρ x1 x3)
set_option maxHeartbeats 4000000 in
set_option maxRecDepth 100000 in
theorem c_X5_heldBy (l : Launch) (D : va_G) (ca : Nat → ClassId) (A : Nat → Prop) (ad : Nat → Nat → Nat) (ρ : kh_S) (x1 : Int32) (x2 : Int32) (x3 : Int32) {q0 : Int32} (hF0 : f_X5_heldBy ρ x1 x2 x3 = some q0) : Met l yX5_heldBy wsX5_heldBy ({ frames := 0, cells := 0, slots := 0, locals := 0 } : Room) (va_Pc [.ref (ad 15 0), .int x1, .int x2, .int x3] (kh_I D ca A ad ρ)) (kh_Qi D ca A ad (kh_pu (f_X5_heldBy ρ x1 x2 x3) ρ)) 0 0 A := by
  refine Met.ofW (cc := cX5_heldBy) (maxL := 6) (ret := (some .int)) (by decide) rfl ?_
  intro p e s m args below meth c s₁ B hml hv
  obtain ⟨rfl, hK, hw, hA⟩ := hv
  have C : kh_C p s m ([.ref (ad 15 0), .int x1, .int x2, .int x3]).toArray c cX5_heldBy 6 RX5 wsX5_heldBy D ca A := ⟨B.exec, B.bytes, hml, findClass_of_methodNamed B.named, atoms_spec (ws := wsX5_heldBy) B.pre, hK, hA⟩
  have hr := B.returns
  have hlocks := B.notSynchronized
  have hS : va_S A s.heap s.heap [] := va_S.rf
  have hl := kh_entry ([.ref (ad 15 0), .int x1, .int x2, .int x3]) (n := 6) (kh_ac rfl (kh_ac rfl (kh_ac rfl (kh_ac rfl kh_an)))) (Nat.le_of_ble_eq_true rfl)
  rw [lg_entry_eq]
  generalize (lg_sl ([.ref (ad 15 0), .int x1, .int x2, .int x3]) ++ List.replicate (6 - (lg_sl ([.ref (ad 15 0), .int x1, .int x2, .int x3])).length) Slot.unset).toArray = ls at hl ⊢
  have hl : kh_lv ls 6 [(0, .ref (ad 15 0)), (1, .int x1), (2, .int x2), (3, .int x3)] := hl
  have k_13 := C.2.2.2.2.1 (.fieldLink RX5 13 "KeylessHallModel" "many" "[I") (by decide +kernel)
  have k_31 := C.2.2.2.2.1 (.fieldLink RX5 31 "KeylessHallModel" "gives" "[I") (by decide +kernel)
  have hF := hF0
  unfold f_X5_heldBy at hF
  have wL54 : ∀ (x4_54 : Int32) (H : Heap) (locs : List Loc) (ls : Array Slot), f_X5_heldBy_L54 ρ x4_54 = some q0 → kh_w D ca A ad ρ H → va_S A s.heap H locs → kh_lv ls 6 [(4, .int x4_54)] → W p l e (headSpec wsX5_heldBy ({ frames := 0, cells := 0, slots := 0, locals := 0 } : Room)).room s m ([.ref (ad 15 0), .int x1, .int x2, .int x3]).toArray below meth c H locs 0 0 (MQ below (kh_Qi D ca A ad (kh_pu (f_X5_heldBy ρ x1 x2 x3) ρ)) ([.ref (ad 15 0), .int x1, .int x2, .int x3]).toArray s 0 0 A) (F0 m 54 ls []) := by
    intro x4_54 H locs ls hF hw hS hl
    unfold f_X5_heldBy_L54 at hF
    refine lv_iload C.1 C.2.1 dX5_heldBy_54 (kh_at hl 0 rfl) ?_
    exact W.iret (v := x4_54) C.1 C.2.1 hr (fun t ht hW => ⟨⟨x4_54, ρ, rfl, kh_mp (hF0.trans hF.symm), kh_bk ht hw⟩, hS.F ht⟩) hS.2.2 dX5_heldBy_56
  have wB6 : ∀ (x1_c6 : Int32) (x3_c6 : Int32) (b : Int32), f_X5_heldBy_A6 ρ x1_c6 x3_c6 b = some q0 → ∀ (n : Nat) (y4_6 : Int32) (y5_6 : Int32) (H : Heap) (locs : List Loc) (ls : Array Slot), kh_lp (fun a : Int32 × Int32 => f_X5_heldBy_B6 ρ x1_c6 x3_c6 a.1 a.2) n (y4_6, y5_6) = some b → kh_w D ca A ad ρ H → va_S A s.heap H locs → kh_lv ls 6 [(0, .ref (ad 15 0)), (1, .int x1_c6), (3, .int x3_c6), (4, .int y4_6), (5, .int y5_6)] → W p l e (headSpec wsX5_heldBy ({ frames := 0, cells := 0, slots := 0, locals := 0 } : Room)).room s m ([.ref (ad 15 0), .int x1, .int x2, .int x3]).toArray below meth c H locs 0 0 (MQ below (kh_Qi D ca A ad (kh_pu (f_X5_heldBy ρ x1 x2 x3) ρ)) ([.ref (ad 15 0), .int x1, .int x2, .int x3]).toArray s 0 0 A) (F0 m 6 ls []) := by
    intro x1_c6 x3_c6 b hA_6 n
    induction n with
    | zero => intro y4_6 y5_6 H locs ls h9; exact absurd h9 (fun z => nomatch z)
    | succ n ih_6 =>
      intro y4_6 y5_6 H locs ls hb_6 hw hS hl
      obtain ⟨q_6, hF, hb_6⟩ := kh_lp_ok hb_6
      have hF : f_X5_heldBy_B6 ρ x1_c6 x3_c6 y4_6 y5_6 = some q_6 := hF
      have wL45 : ∀ (x5_45 : Int32) (t0_45 : Int32) (t1_45 : Int32) (H : Heap) (locs : List Loc) (ls : Array Slot), f_X5_heldBy_L45 ρ x1_c6 x3_c6 x5_45 t0_45 t1_45 = some q_6 → kh_w D ca A ad ρ H → va_S A s.heap H locs → kh_lv ls 6 [(0, .ref (ad 15 0)), (1, .int x1_c6), (3, .int x3_c6), (5, .int x5_45)] → W p l e (headSpec wsX5_heldBy ({ frames := 0, cells := 0, slots := 0, locals := 0 } : Room)).room s m ([.ref (ad 15 0), .int x1, .int x2, .int x3]).toArray below meth c H locs 0 0 (MQ below (kh_Qi D ca A ad (kh_pu (f_X5_heldBy ρ x1 x2 x3) ρ)) ([.ref (ad 15 0), .int x1, .int x2, .int x3]).toArray s 0 0 A) (F0 m 45 ls [.int t1_45, .int t0_45]) := by
        intro x5_45 t0_45 t1_45 H locs ls hF hw hS hl
        unfold f_X5_heldBy_L45 at hF
        refine lv_ior C.1 C.2.1 dX5_heldBy_45 ?_
        refine kh_istore (lv' := [(4, .int (t0_45 ||| t1_45)), (0, .ref (ad 15 0)), (1, .int x1_c6), (3, .int x3_c6), (5, .int x5_45)]) C.1 C.2.1 dX5_heldBy_46 hl (by decide) rfl (fun ls hl => ?_)
        refine kh_iinc (v := x5_45 + (1 : Int32)) (lv' := [(5, .int (x5_45 + (1 : Int32))), (4, .int (t0_45 ||| t1_45)), (0, .ref (ad 15 0)), (1, .int x1_c6), (3, .int x3_c6)]) C.1 C.2.1 dX5_heldBy_48 hl (k := 4) rfl (by rfl) (by decide) rfl (fun ls hl => ?_)
        refine lv_goto (tgt := 6) C.1 C.2.1 dX5_heldBy_51 (by decide) ?_
        have e9 := Option.some.inj hF
        rcases hb_6 with ⟨a9, h8, h9⟩ | h8
        · have h7 := Sum.inl.inj (e9.trans h8)
          subst h7
          exact ih_6 _ _ _ _ _ h9 hw hS (kh_sub hl [2, 3, 4, 1, 0] rfl)
        · exact absurd (e9.trans h8) (fun z => nomatch z)
      unfold f_X5_heldBy_B6 at hF
      refine lv_iload C.1 C.2.1 dX5_heldBy_6 (kh_at hl 4 rfl) ?_
      refine lv_aload_n C.1 C.2.1 dX5_heldBy_8 rfl (kh_at hl 0 rfl) ?_
      refine kh_get C hw 15 5 rfl (kh_z15 ρ) kh_kd15 (Cn := RX5) (T := TX5) (N := 33) rfl (Nat.le_of_ble_eq_true rfl) k_13 (kf_15_5 ad ρ 0) dX5_heldBy_9 ?_
      refine lv_iload_n C.1 C.2.1 dX5_heldBy_12 rfl (kh_at hl 1 rfl) ?_
      obtain ⟨g_1, hF⟩ := kh_gd_ok hF
      refine kh_iald C hw 25 rfl (kh_z25 ρ) kh_kd25 g_1 dX5_heldBy_13 ?_
      refine lv_icmp_ge (tgt := 54) C.1 C.2.1 dX5_heldBy_14 (by decide) (fun c_2 => ?_) (fun c_2 => ?_)
      · have hF := kh_ift hF c_2
        have e9 := Option.some.inj hF
        rcases hb_6 with ⟨a9, h8, h9⟩ | h8
        · exact absurd (e9.trans h8) (fun z => nomatch z)
        have h7 := Sum.inr.inj (e9.trans h8)
        have hF := (congrArg (f_X5_heldBy_A6 ρ x1_c6 x3_c6) h7).trans hA_6
        exact wL54 y4_6 _ _ _ hF hw hS (kh_sub hl [3] rfl)
      · have hF := kh_iff hF c_2
        refine lv_iload C.1 C.2.1 dX5_heldBy_17 (kh_at hl 3 rfl) ?_
        refine lv_iload_n C.1 C.2.1 dX5_heldBy_19 rfl (kh_at hl 2 rfl) ?_
        refine lv_iload C.1 C.2.1 dX5_heldBy_20 (kh_at hl 4 rfl) ?_
        refine lv_ishr C.1 C.2.1 dX5_heldBy_22 ?_
        refine lv_iconst (v := (1 : Int32)) C.1 C.2.1 dX5_heldBy_23 (by decide) ?_
        refine lv_iand C.1 C.2.1 dX5_heldBy_24 ?_
        refine lv_iconst (v := (1 : Int32)) C.1 C.2.1 dX5_heldBy_25 (by decide) ?_
        refine lv_icmp_ne (tgt := 44) C.1 C.2.1 dX5_heldBy_26 (by decide) (fun c_3 => ?_) (fun c_3 => ?_)
        · have hF := kh_iff hF c_3
          refine lv_iconst (v := (0 : Int32)) C.1 C.2.1 dX5_heldBy_44 (by decide) ?_
          exact wL45 y5_6 y4_6 (0 : Int32) _ _ _ hF hw hS (kh_sub hl [0, 1, 2, 4] rfl)
        · have hF := kh_ift hF c_3
          refine lv_aload_n C.1 C.2.1 dX5_heldBy_29 rfl (kh_at hl 0 rfl) ?_
          refine kh_get C hw 15 11 rfl (kh_z15 ρ) kh_kd15 (Cn := RX5) (T := TX5) (N := 33) rfl (Nat.le_of_ble_eq_true rfl) k_31 (kf_15_11 ad ρ 0) dX5_heldBy_30 ?_
          refine lv_bipush (v := (8 : Int32)) C.1 C.2.1 dX5_heldBy_33 (by decide) ?_
          refine lv_iload_n C.1 C.2.1 dX5_heldBy_35 rfl (kh_at hl 1 rfl) ?_
          refine lv_imul C.1 C.2.1 dX5_heldBy_36 ?_
          refine lv_iload C.1 C.2.1 dX5_heldBy_37 (kh_at hl 4 rfl) ?_
          refine lv_iadd C.1 C.2.1 dX5_heldBy_39 ?_
          obtain ⟨g_4, hF⟩ := kh_gd_ok hF
          refine kh_iald C hw 31 rfl (kh_z31 ρ) kh_kd31 g_4 dX5_heldBy_40 ?_
          refine lv_goto (tgt := 45) C.1 C.2.1 dX5_heldBy_41 (by decide) ?_
          exact wL45 y5_6 y4_6 (ρ 31 0 0 (((8 : Int32) * x1_c6) + y5_6).toNatClampNeg) _ _ _ hF hw hS (kh_sub hl [0, 1, 2, 4] rfl)
  refine lv_iload_n C.1 C.2.1 dX5_heldBy_0 rfl (kh_at hl 2 rfl) ?_
  refine kh_istore (lv' := [(4, .int x2), (0, .ref (ad 15 0)), (1, .int x1), (2, .int x2), (3, .int x3)]) C.1 C.2.1 dX5_heldBy_1 hl (by decide) rfl (fun ls hl => ?_)
  refine lv_iconst (v := (0 : Int32)) C.1 C.2.1 dX5_heldBy_3 (by decide) ?_
  refine kh_istore (lv' := [(5, .int (0 : Int32)), (4, .int x2), (0, .ref (ad 15 0)), (1, .int x1), (2, .int x2), (3, .int x3)]) C.1 C.2.1 dX5_heldBy_4 hl (by decide) rfl (fun ls hl => ?_)
  obtain ⟨b_6, hb_6, hF⟩ := kh_bd_ok hF
  exact wB6 x1 x3 b_6 hF _ x2 (0 : Int32) _ _ _ hb_6 hw hS (kh_sub hl [2, 3, 5, 1, 0] rfl)

def f_X5_orders_L168 (ρ_168 : kh_S) : Option (Int32 × kh_S) := kh_gd (kh_in (0 : Int32) 256) (some (ρ_168 52 0 0 (0 : Int32).toNatClampNeg, ρ_168))
def f_X5_orders_L154 (x1_c33 : Int32) (ρ_154 : kh_S) (x2_154 : Int32) (x4_154 : Int32) : Option ((kh_S × Int32) ⊕ (kh_S)) := kh_gd (kh_in x2_154 256) (some (.inl (kh_up ρ_154 52 0 0 x2_154.toNatClampNeg x4_154, x2_154 + (-1 : Int32))))
def f_X5_orders_L145 (x1_c33 : Int32) (σ_58 : kh_S) (x2_c58 : Int32) (x3_c58 : Int32) (x5_145 : Int32) (t0_145 : Int32) (t1_145 : Int32) : Option ((Int32 × Int32) ⊕ (Int32)) := some (.inl (t0_145 + t1_145, x5_145 + (1 : Int32)))
def f_X5_orders_L121 (x1_c33 : Int32) (σ_58 : kh_S) (x2_c58 : Int32) (x3_c58 : Int32) (x4_121 : Int32) (x5_121 : Int32) (t0_121 : Int32) : Option ((Int32 × Int32) ⊕ (Int32)) := if t0_121 = 0 then f_X5_orders_L145 x1_c33 σ_58 x2_c58 x3_c58 x5_121 x4_121 (0 : Int32) else kh_gd (kh_in (x2_c58 ||| ((1 : Int32) <<< (x5_121 &&& 31))) 256) (f_X5_orders_L145 x1_c33 σ_58 x2_c58 x3_c58 x5_121 x4_121 (σ_58 52 0 0 (x2_c58 ||| ((1 : Int32) <<< (x5_121 &&& 31))).toNatClampNeg))
def f_X5_orders_L120 (x1_c33 : Int32) (σ_58 : kh_S) (x2_c58 : Int32) (x3_c58 : Int32) (x4_120 : Int32) (x5_120 : Int32) : Option ((Int32 × Int32) ⊕ (Int32)) := f_X5_orders_L121 x1_c33 σ_58 x2_c58 x3_c58 x4_120 x5_120 (0 : Int32)
def f_X5_orders_B58 (x1_c33 : Int32) (σ_58 : kh_S) (x2_c58 : Int32) (x3_c58 : Int32) (y4_58 : Int32) (y5_58 : Int32) : Option ((Int32 × Int32) ⊕ (Int32)) := kh_gd (kh_in x1_c33 4) (if (σ_58 25 0 0 x1_c33.toNatClampNeg) ≤ y5_58 then some (.inr y4_58) else if (x3_c58 &&& (1 : Int32)) = 0 then if ((x2_c58 >>> (y5_58 &&& 31)) &&& (1 : Int32)) = 0 then kh_bd (f_X5_isOut σ_58 (((8 : Int32) * x1_c33) + y5_58)) (fun r_9 => if r_9 = 0 then kh_gd (kh_in (((8 : Int32) * x1_c33) + y5_58) 32) (if ((σ_58 30 0 0 (((8 : Int32) * x1_c33) + y5_58).toNatClampNeg) &&& (x3_c58 ^^^ (-1 : Int32))) = 0 then f_X5_orders_L121 x1_c33 σ_58 x2_c58 x3_c58 y4_58 y5_58 (1 : Int32) else f_X5_orders_L120 x1_c33 σ_58 x2_c58 x3_c58 y4_58 y5_58) else f_X5_orders_L120 x1_c33 σ_58 x2_c58 x3_c58 y4_58 y5_58) else f_X5_orders_L120 x1_c33 σ_58 x2_c58 x3_c58 y4_58 y5_58 else some (.inr y4_58))
def f_X5_orders_A58 (x1_c33 : Int32) (σ_58 : kh_S) (x2_c58 : Int32) (x3_c58 : Int32) : (Int32) → Option ((kh_S × Int32) ⊕ (kh_S)) := (fun u : Int32 => f_X5_orders_L154 x1_c33 σ_58 x2_c58 u)
def f_X5_orders_B33 (x1_c33 : Int32) (σ_33 : kh_S) (y2_33 : Int32) : Option ((kh_S × Int32) ⊕ (kh_S)) := if y2_33 < 0 then some (.inr σ_33) else kh_gd (kh_in x1_c33 4) (kh_bd (f_X5_heldBy σ_33 x1_c33 (σ_33 24 0 0 x1_c33.toNatClampNeg) y2_33) (fun r_15 => kh_bd (kh_lp (fun a : Int32 × Int32 => f_X5_orders_B58 x1_c33 σ_33 y2_33 r_15 a.1 a.2) 9999 (r_15 &&& (1 : Int32), (0 : Int32))) (f_X5_orders_A58 x1_c33 σ_33 y2_33 r_15)))
def f_X5_orders_A33 (x1_c33 : Int32) : (kh_S) → Option (Int32 × kh_S) := (fun u : kh_S => f_X5_orders_L168 u)
def f_X5_orders_L14 (ρ_14 : kh_S) (x1_14 : Int32) (t1_14 : Int32) : Option (Int32 × kh_S) := kh_bd2 (f_X5_refused ρ_14 t1_14) (fun r_16 ρ_16 => if r_16 = 0 then kh_gd (kh_in x1_14 4) (kh_bd (kh_lp (fun a : kh_S × Int32 => f_X5_orders_B33 x1_14 a.1 a.2) 9999 (ρ_16, ((1 : Int32) <<< ((ρ_16 25 0 0 x1_14.toNatClampNeg) &&& 31)) - (1 : Int32))) (f_X5_orders_A33 x1_14)) else some ((0 : Int32), ρ_16))
def f_X5_orders (ρ : kh_S) (x1 : Int32) : Option (Int32 × kh_S) := kh_bd (f_X5_isRoom ρ x1) (fun r_19 => if r_19 = 0 then f_X5_orders_L14 ρ x1 (1 : Int32) else f_X5_orders_L14 ρ x1 (0 : Int32))
set_option maxHeartbeats 4000000 in
set_option maxRecDepth 100000 in
theorem c_X5_orders (l : Launch) (D : va_G) (ca : Nat → ClassId) (A : Nat → Prop) (ad : Nat → Nat → Nat) (ρ : kh_S) (x1 : Int32) {q0 : Int32 × kh_S} (hF0 : f_X5_orders ρ x1 = some q0) : Met l yX5_orders wsX5_orders ({ frames := 2, cells := 0, slots := 0, locals := 43 } : Room) (va_Pc [.ref (ad 15 0), .int x1] (kh_I D ca A ad ρ)) (kh_Qi D ca A ad (f_X5_orders ρ x1)) 0 0 A := by
  refine Met.ofW (cc := cX5_orders) (maxL := 8) (ret := (some .int)) (by decide) rfl ?_
  intro p e s m args below meth c s₁ B hml hv
  obtain ⟨rfl, hK, hw, hA⟩ := hv
  have C : kh_C p s m ([.ref (ad 15 0), .int x1]).toArray c cX5_orders 8 RX5 wsX5_orders D ca A := ⟨B.exec, B.bytes, hml, findClass_of_methodNamed B.named, atoms_spec (ws := wsX5_orders) B.pre, hK, hA⟩
  have hr := B.returns
  have hlocks := B.notSynchronized
  have hS : va_S A s.heap s.heap [] := va_S.rf
  have hl := kh_entry ([.ref (ad 15 0), .int x1]) (n := 8) (kh_ac rfl (kh_ac rfl kh_an)) (Nat.le_of_ble_eq_true rfl)
  rw [lg_entry_eq]
  generalize (lg_sl ([.ref (ad 15 0), .int x1]) ++ List.replicate (8 - (lg_sl ([.ref (ad 15 0), .int x1])).length) Slot.unset).toArray = ls at hl ⊢
  have hl : kh_lv ls 8 [(0, .ref (ad 15 0)), (1, .int x1)] := hl
  have k_89 := C.2.2.2.2.1 (.fieldLink RX5 89 "KeylessHallModel" "ways" "[I") (by decide +kernel)
  have k_13 := C.2.2.2.2.1 (.fieldLink RX5 13 "KeylessHallModel" "many" "[I") (by decide +kernel)
  have k_28 := C.2.2.2.2.1 (.fieldLink RX5 28 "KeylessHallModel" "needs" "[I") (by decide +kernel)
  have k_7 := C.2.2.2.2.1 (.fieldLink RX5 7 "KeylessHallModel" "first" "[I") (by decide +kernel)
  have hF := hF0
  unfold f_X5_orders at hF
  have wL168 : ∀ (ρ_168 : kh_S) (H : Heap) (locs : List Loc) (ls : Array Slot), f_X5_orders_L168 ρ_168 = some q0 → kh_w D ca A ad ρ_168 H → va_S A s.heap H locs → kh_lv ls 8 [(0, .ref (ad 15 0))] → W p l e (headSpec wsX5_orders ({ frames := 2, cells := 0, slots := 0, locals := 43 } : Room)).room s m ([.ref (ad 15 0), .int x1]).toArray below meth c H locs 0 0 (MQ below (kh_Qi D ca A ad (f_X5_orders ρ x1)) ([.ref (ad 15 0), .int x1]).toArray s 0 0 A) (F0 m 168 ls []) := by
    intro ρ_168 H locs ls hF hw hS hl
    unfold f_X5_orders_L168 at hF
    refine lv_aload_n C.1 C.2.1 dX5_orders_168 rfl (kh_at hl 0 rfl) ?_
    refine kh_get C hw 15 32 rfl (kh_z15 ρ_168) kh_kd15 (Cn := RX5) (T := TX5) (N := 33) rfl (Nat.le_of_ble_eq_true rfl) k_89 (kf_15_32 ad ρ_168 0) dX5_orders_169 ?_
    refine lv_iconst (v := (0 : Int32)) C.1 C.2.1 dX5_orders_172 (by decide) ?_
    obtain ⟨g_1, hF⟩ := kh_gd_ok hF
    refine kh_iald C hw 52 rfl (kh_z52 ρ_168) kh_kd52 g_1 dX5_orders_173 ?_
    exact W.iret (v := ρ_168 52 0 0 (0 : Int32).toNatClampNeg) C.1 C.2.1 hr (fun t ht hW => ⟨⟨ρ_168 52 0 0 (0 : Int32).toNatClampNeg, ρ_168, rfl, hF0.trans hF.symm, kh_bk ht hw⟩, hS.F ht⟩) hS.2.2 dX5_orders_174
  have wB33 : ∀ (x1_c33 : Int32) (b : kh_S), f_X5_orders_A33 x1_c33 b = some q0 → ∀ (n : Nat) (σ_33 : kh_S) (y2_33 : Int32) (H : Heap) (locs : List Loc) (ls : Array Slot), kh_lp (fun a : kh_S × Int32 => f_X5_orders_B33 x1_c33 a.1 a.2) n (σ_33, y2_33) = some b → kh_w D ca A ad σ_33 H → va_S A s.heap H locs → kh_lv ls 8 [(0, .ref (ad 15 0)), (1, .int x1_c33), (2, .int y2_33)] → W p l e (headSpec wsX5_orders ({ frames := 2, cells := 0, slots := 0, locals := 43 } : Room)).room s m ([.ref (ad 15 0), .int x1]).toArray below meth c H locs 0 0 (MQ below (kh_Qi D ca A ad (f_X5_orders ρ x1)) ([.ref (ad 15 0), .int x1]).toArray s 0 0 A) (F0 m 33 ls []) := by
    intro x1_c33 b hA_33 n
    induction n with
    | zero => intro σ_33 y2_33 H locs ls h9; exact absurd h9 (fun z => nomatch z)
    | succ n ih_33 =>
      intro σ_33 y2_33 H locs ls hb_33 hw hS hl
      obtain ⟨q_33, hF, hb_33⟩ := kh_lp_ok hb_33
      have hF : f_X5_orders_B33 x1_c33 σ_33 y2_33 = some q_33 := hF
      have wL154 : ∀ (ρ_154 : kh_S) (x2_154 : Int32) (x4_154 : Int32) (H : Heap) (locs : List Loc) (ls : Array Slot), f_X5_orders_L154 x1_c33 ρ_154 x2_154 x4_154 = some q_33 → kh_w D ca A ad ρ_154 H → va_S A s.heap H locs → kh_lv ls 8 [(0, .ref (ad 15 0)), (1, .int x1_c33), (2, .int x2_154), (4, .int x4_154)] → W p l e (headSpec wsX5_orders ({ frames := 2, cells := 0, slots := 0, locals := 43 } : Room)).room s m ([.ref (ad 15 0), .int x1]).toArray below meth c H locs 0 0 (MQ below (kh_Qi D ca A ad (f_X5_orders ρ x1)) ([.ref (ad 15 0), .int x1]).toArray s 0 0 A) (F0 m 154 ls []) := by
        intro ρ_154 x2_154 x4_154 H locs ls hF hw hS hl
        unfold f_X5_orders_L154 at hF
        refine lv_aload_n C.1 C.2.1 dX5_orders_154 rfl (kh_at hl 0 rfl) ?_
        refine kh_get C hw 15 32 rfl (kh_z15 ρ_154) kh_kd15 (Cn := RX5) (T := TX5) (N := 33) rfl (Nat.le_of_ble_eq_true rfl) k_89 (kf_15_32 ad ρ_154 0) dX5_orders_155 ?_
        refine lv_iload_n C.1 C.2.1 dX5_orders_158 rfl (kh_at hl 2 rfl) ?_
        refine lv_iload C.1 C.2.1 dX5_orders_159 (kh_at hl 3 rfl) ?_
        obtain ⟨g_2, hF⟩ := kh_gd_ok hF
        refine kh_iast C hw hS 52 rfl (kh_z52 ρ_154) (by decide) kh_kd52 g_2 dX5_orders_161 (fun H locs hw hS => ?_)
        refine kh_iinc (v := x2_154 + (-1 : Int32)) (lv' := [(2, .int (x2_154 + (-1 : Int32))), (0, .ref (ad 15 0)), (1, .int x1_c33), (4, .int x4_154)]) C.1 C.2.1 dX5_orders_162 hl (k := 2) rfl (by rfl) (by decide) rfl (fun ls hl => ?_)
        refine lv_goto (tgt := 33) C.1 C.2.1 dX5_orders_165 (by decide) ?_
        have e9 := Option.some.inj hF
        rcases hb_33 with ⟨a9, h8, h9⟩ | h8
        · have h7 := Sum.inl.inj (e9.trans h8)
          subst h7
          exact ih_33 _ _ _ _ _ h9 hw hS (kh_sub hl [1, 2, 0] rfl)
        · exact absurd (e9.trans h8) (fun z => nomatch z)
      have wB58 : ∀ (σ_58 : kh_S) (x2_c58 : Int32) (x3_c58 : Int32) (b : Int32), f_X5_orders_A58 x1_c33 σ_58 x2_c58 x3_c58 b = some q_33 → ∀ (n : Nat) (y4_58 : Int32) (y5_58 : Int32) (H : Heap) (locs : List Loc) (ls : Array Slot), kh_lp (fun a : Int32 × Int32 => f_X5_orders_B58 x1_c33 σ_58 x2_c58 x3_c58 a.1 a.2) n (y4_58, y5_58) = some b → kh_w D ca A ad σ_58 H → va_S A s.heap H locs → kh_lv ls 8 [(0, .ref (ad 15 0)), (1, .int x1_c33), (2, .int x2_c58), (3, .int x3_c58), (4, .int y4_58), (5, .int y5_58)] → W p l e (headSpec wsX5_orders ({ frames := 2, cells := 0, slots := 0, locals := 43 } : Room)).room s m ([.ref (ad 15 0), .int x1]).toArray below meth c H locs 0 0 (MQ below (kh_Qi D ca A ad (f_X5_orders ρ x1)) ([.ref (ad 15 0), .int x1]).toArray s 0 0 A) (F0 m 58 ls []) := by
        intro σ_58 x2_c58 x3_c58 b hA_58 n
        induction n with
        | zero => intro y4_58 y5_58 H locs ls h9; exact absurd h9 (fun z => nomatch z)
        | succ n ih_58 =>
          intro y4_58 y5_58 H locs ls hb_58 hw hS hl
          obtain ⟨q_58, hF, hb_58⟩ := kh_lp_ok hb_58
          have hF : f_X5_orders_B58 x1_c33 σ_58 x2_c58 x3_c58 y4_58 y5_58 = some q_58 := hF
          have wL145 : ∀ (x5_145 : Int32) (t0_145 : Int32) (t1_145 : Int32) (H : Heap) (locs : List Loc) (ls : Array Slot), f_X5_orders_L145 x1_c33 σ_58 x2_c58 x3_c58 x5_145 t0_145 t1_145 = some q_58 → kh_w D ca A ad σ_58 H → va_S A s.heap H locs → kh_lv ls 8 [(0, .ref (ad 15 0)), (1, .int x1_c33), (2, .int x2_c58), (3, .int x3_c58), (5, .int x5_145)] → W p l e (headSpec wsX5_orders ({ frames := 2, cells := 0, slots := 0, locals := 43 } : Room)).room s m ([.ref (ad 15 0), .int x1]).toArray below meth c H locs 0 0 (MQ below (kh_Qi D ca A ad (f_X5_orders ρ x1)) ([.ref (ad 15 0), .int x1]).toArray s 0 0 A) (F0 m 145 ls [.int t1_145, .int t0_145]) := by
            intro x5_145 t0_145 t1_145 H locs ls hF hw hS hl
            unfold f_X5_orders_L145 at hF
            refine lv_iadd C.1 C.2.1 dX5_orders_145 ?_
            refine kh_istore (lv' := [(4, .int (t0_145 + t1_145)), (0, .ref (ad 15 0)), (1, .int x1_c33), (2, .int x2_c58), (3, .int x3_c58), (5, .int x5_145)]) C.1 C.2.1 dX5_orders_146 hl (by decide) rfl (fun ls hl => ?_)
            refine kh_iinc (v := x5_145 + (1 : Int32)) (lv' := [(5, .int (x5_145 + (1 : Int32))), (4, .int (t0_145 + t1_145)), (0, .ref (ad 15 0)), (1, .int x1_c33), (2, .int x2_c58), (3, .int x3_c58)]) C.1 C.2.1 dX5_orders_148 hl (k := 5) rfl (by rfl) (by decide) rfl (fun ls hl => ?_)
            refine lv_goto (tgt := 58) C.1 C.2.1 dX5_orders_151 (by decide) ?_
            have e9 := Option.some.inj hF
            rcases hb_58 with ⟨a9, h8, h9⟩ | h8
            · have h7 := Sum.inl.inj (e9.trans h8)
              subst h7
              exact ih_58 _ _ _ _ _ h9 hw hS (kh_sub hl [2, 3, 4, 5, 1, 0] rfl)
            · exact absurd (e9.trans h8) (fun z => nomatch z)
          have wL121 : ∀ (x4_121 : Int32) (x5_121 : Int32) (t0_121 : Int32) (H : Heap) (locs : List Loc) (ls : Array Slot), f_X5_orders_L121 x1_c33 σ_58 x2_c58 x3_c58 x4_121 x5_121 t0_121 = some q_58 → kh_w D ca A ad σ_58 H → va_S A s.heap H locs → kh_lv ls 8 [(0, .ref (ad 15 0)), (1, .int x1_c33), (2, .int x2_c58), (3, .int x3_c58), (4, .int x4_121), (5, .int x5_121)] → W p l e (headSpec wsX5_orders ({ frames := 2, cells := 0, slots := 0, locals := 43 } : Room)).room s m ([.ref (ad 15 0), .int x1]).toArray below meth c H locs 0 0 (MQ below (kh_Qi D ca A ad (f_X5_orders ρ x1)) ([.ref (ad 15 0), .int x1]).toArray s 0 0 A) (F0 m 121 ls [.int t0_121]) := by
            intro x4_121 x5_121 t0_121 H locs ls hF hw hS hl
            unfold f_X5_orders_L121 at hF
            refine kh_istore (lv' := [(7, .int t0_121), (0, .ref (ad 15 0)), (1, .int x1_c33), (2, .int x2_c58), (3, .int x3_c58), (4, .int x4_121), (5, .int x5_121)]) C.1 C.2.1 dX5_orders_121 hl (by decide) rfl (fun ls hl => ?_)
            refine lv_iload C.1 C.2.1 dX5_orders_123 (kh_at hl 5 rfl) ?_
            refine lv_iload C.1 C.2.1 dX5_orders_125 (kh_at hl 0 rfl) ?_
            refine lv_if_eq (tgt := 144) C.1 C.2.1 dX5_orders_127 (by decide) (fun c_3 => ?_) (fun c_3 => ?_)
            · have hF := kh_ift hF c_3
              refine lv_iconst (v := (0 : Int32)) C.1 C.2.1 dX5_orders_144 (by decide) ?_
              exact wL145 x5_121 x4_121 (0 : Int32) _ _ _ hF hw hS (kh_sub hl [1, 2, 3, 4, 6] rfl)
            · have hF := kh_iff hF c_3
              refine lv_aload_n C.1 C.2.1 dX5_orders_130 rfl (kh_at hl 1 rfl) ?_
              refine kh_get C hw 15 32 rfl (kh_z15 σ_58) kh_kd15 (Cn := RX5) (T := TX5) (N := 33) rfl (Nat.le_of_ble_eq_true rfl) k_89 (kf_15_32 ad σ_58 0) dX5_orders_131 ?_
              refine lv_iload_n C.1 C.2.1 dX5_orders_134 rfl (kh_at hl 3 rfl) ?_
              refine lv_iconst (v := (1 : Int32)) C.1 C.2.1 dX5_orders_135 (by decide) ?_
              refine lv_iload C.1 C.2.1 dX5_orders_136 (kh_at hl 6 rfl) ?_
              refine lv_ishl C.1 C.2.1 dX5_orders_138 ?_
              refine lv_ior C.1 C.2.1 dX5_orders_139 ?_
              obtain ⟨g_4, hF⟩ := kh_gd_ok hF
              refine kh_iald C hw 52 rfl (kh_z52 σ_58) kh_kd52 g_4 dX5_orders_140 ?_
              refine lv_goto (tgt := 145) C.1 C.2.1 dX5_orders_141 (by decide) ?_
              exact wL145 x5_121 x4_121 (σ_58 52 0 0 (x2_c58 ||| ((1 : Int32) <<< (x5_121 &&& 31))).toNatClampNeg) _ _ _ hF hw hS (kh_sub hl [1, 2, 3, 4, 6] rfl)
          have wL120 : ∀ (x4_120 : Int32) (x5_120 : Int32) (H : Heap) (locs : List Loc) (ls : Array Slot), f_X5_orders_L120 x1_c33 σ_58 x2_c58 x3_c58 x4_120 x5_120 = some q_58 → kh_w D ca A ad σ_58 H → va_S A s.heap H locs → kh_lv ls 8 [(0, .ref (ad 15 0)), (1, .int x1_c33), (2, .int x2_c58), (3, .int x3_c58), (4, .int x4_120), (5, .int x5_120)] → W p l e (headSpec wsX5_orders ({ frames := 2, cells := 0, slots := 0, locals := 43 } : Room)).room s m ([.ref (ad 15 0), .int x1]).toArray below meth c H locs 0 0 (MQ below (kh_Qi D ca A ad (f_X5_orders ρ x1)) ([.ref (ad 15 0), .int x1]).toArray s 0 0 A) (F0 m 120 ls []) := by
            intro x4_120 x5_120 H locs ls hF hw hS hl
            unfold f_X5_orders_L120 at hF
            refine lv_iconst (v := (0 : Int32)) C.1 C.2.1 dX5_orders_120 (by decide) ?_
            exact wL121 x4_120 x5_120 (0 : Int32) _ _ _ hF hw hS (kh_sub hl [0, 1, 2, 3, 4, 5] rfl)
          unfold f_X5_orders_B58 at hF
          refine lv_iload C.1 C.2.1 dX5_orders_58 (kh_at hl 5 rfl) ?_
          refine lv_aload_n C.1 C.2.1 dX5_orders_60 rfl (kh_at hl 0 rfl) ?_
          refine kh_get C hw 15 5 rfl (kh_z15 σ_58) kh_kd15 (Cn := RX5) (T := TX5) (N := 33) rfl (Nat.le_of_ble_eq_true rfl) k_13 (kf_15_5 ad σ_58 0) dX5_orders_61 ?_
          refine lv_iload_n C.1 C.2.1 dX5_orders_64 rfl (kh_at hl 1 rfl) ?_
          obtain ⟨g_5, hF⟩ := kh_gd_ok hF
          refine kh_iald C hw 25 rfl (kh_z25 σ_58) kh_kd25 g_5 dX5_orders_65 ?_
          refine lv_icmp_ge (tgt := 154) C.1 C.2.1 dX5_orders_66 (by decide) (fun c_6 => ?_) (fun c_6 => ?_)
          · have hF := kh_ift hF c_6
            have e9 := Option.some.inj hF
            rcases hb_58 with ⟨a9, h8, h9⟩ | h8
            · exact absurd (e9.trans h8) (fun z => nomatch z)
            have h7 := Sum.inr.inj (e9.trans h8)
            have hF := (congrArg (f_X5_orders_A58 x1_c33 σ_58 x2_c58 x3_c58) h7).trans hA_58
            exact wL154 σ_58 x2_c58 y4_58 _ _ _ hF hw hS (kh_sub hl [0, 1, 2, 4] rfl)
          · have hF := kh_iff hF c_6
            refine lv_iload_n C.1 C.2.1 dX5_orders_69 rfl (kh_at hl 3 rfl) ?_
            refine lv_iconst (v := (1 : Int32)) C.1 C.2.1 dX5_orders_70 (by decide) ?_
            refine lv_iand C.1 C.2.1 dX5_orders_71 ?_
            refine lv_if_ne (tgt := 154) C.1 C.2.1 dX5_orders_72 (by decide) (fun c_7 => ?_) (fun c_7 => ?_)
            · have hF := kh_iff hF c_7
              have e9 := Option.some.inj hF
              rcases hb_58 with ⟨a9, h8, h9⟩ | h8
              · exact absurd (e9.trans h8) (fun z => nomatch z)
              have h7 := Sum.inr.inj (e9.trans h8)
              have hF := (congrArg (f_X5_orders_A58 x1_c33 σ_58 x2_c58 x3_c58) h7).trans hA_58
              exact wL154 σ_58 x2_c58 y4_58 _ _ _ hF hw hS (kh_sub hl [0, 1, 2, 4] rfl)
            · have hF := kh_ift hF c_7
              refine lv_bipush (v := (8 : Int32)) C.1 C.2.1 dX5_orders_75 (by decide) ?_
              refine lv_iload_n C.1 C.2.1 dX5_orders_77 rfl (kh_at hl 1 rfl) ?_
              refine lv_imul C.1 C.2.1 dX5_orders_78 ?_
              refine lv_iload C.1 C.2.1 dX5_orders_79 (kh_at hl 5 rfl) ?_
              refine lv_iadd C.1 C.2.1 dX5_orders_81 ?_
              refine kh_istore (lv' := [(6, .int (((8 : Int32) * x1_c33) + y5_58)), (0, .ref (ad 15 0)), (1, .int x1_c33), (2, .int x2_c58), (3, .int x3_c58), (4, .int y4_58), (5, .int y5_58)]) C.1 C.2.1 dX5_orders_82 hl (by decide) rfl (fun ls hl => ?_)
              refine lv_iload_n C.1 C.2.1 dX5_orders_84 rfl (kh_at hl 3 rfl) ?_
              refine lv_iload C.1 C.2.1 dX5_orders_85 (kh_at hl 6 rfl) ?_
              refine lv_ishr C.1 C.2.1 dX5_orders_87 ?_
              refine lv_iconst (v := (1 : Int32)) C.1 C.2.1 dX5_orders_88 (by decide) ?_
              refine lv_iand C.1 C.2.1 dX5_orders_89 ?_
              refine lv_if_ne (tgt := 120) C.1 C.2.1 dX5_orders_90 (by decide) (fun c_8 => ?_) (fun c_8 => ?_)
              · have hF := kh_iff hF c_8
                exact wL120 y4_58 y5_58 _ _ _ hF hw hS (kh_sub hl [1, 2, 3, 4, 5, 6] rfl)
              · have hF := kh_ift hF c_8
                refine lv_aload_n C.1 C.2.1 dX5_orders_93 rfl (kh_at hl 1 rfl) ?_
                refine lv_iload C.1 C.2.1 dX5_orders_94 (kh_at hl 0 rfl) ?_
                obtain ⟨r_9, h_9, hF⟩ := kh_bd_ok hF
                refine kh_calli (va_runV (As := [.int (((8 : Int32) * x1_c33) + y5_58)]) (rest := []) ⟨C.1, C.2.1, C.2.2.1, C.2.2.2.1, C.2.2.2.2.1⟩ (c_X5_isOut l D ca A ad σ_58 (((8 : Int32) * x1_c33) + y5_58) h_9) (cwV 1 C.2.2.2.2.1 gX5_orders_X5_isOut rfl rfl rfl (by decide +kernel) ⟨Nat.le_of_ble_eq_true rfl, Nat.le_of_ble_eq_true rfl⟩) (kh_preV C hw hS 15 (kh_z15 σ_58) kh_kd15 rfl) rfl rfl hl.1.1 rfl (lv_room (kh_sum kh_an (Nat.le_of_ble_eq_true rfl))) dX5_orders_96 ⟨Nat.le_of_ble_eq_true rfl, Nat.le_of_ble_eq_true rfl⟩) hS (kh_mp h_9) (fun H locs hw hS => ?_)
                refine lv_if_ne (tgt := 120) C.1 C.2.1 dX5_orders_99 (by decide) (fun c_10 => ?_) (fun c_10 => ?_)
                · have hF := kh_iff hF c_10
                  exact wL120 y4_58 y5_58 _ _ _ hF hw hS (kh_sub hl [1, 2, 3, 4, 5, 6] rfl)
                · have hF := kh_ift hF c_10
                  refine lv_aload_n C.1 C.2.1 dX5_orders_102 rfl (kh_at hl 1 rfl) ?_
                  refine kh_get C hw 15 10 rfl (kh_z15 σ_58) kh_kd15 (Cn := RX5) (T := TX5) (N := 33) rfl (Nat.le_of_ble_eq_true rfl) k_28 (kf_15_10 ad σ_58 0) dX5_orders_103 ?_
                  refine lv_iload C.1 C.2.1 dX5_orders_106 (kh_at hl 0 rfl) ?_
                  obtain ⟨g_11, hF⟩ := kh_gd_ok hF
                  refine kh_iald C hw 30 rfl (kh_z30 σ_58) kh_kd30 g_11 dX5_orders_108 ?_
                  refine lv_iload_n C.1 C.2.1 dX5_orders_109 rfl (kh_at hl 4 rfl) ?_
                  refine lv_iconst (v := (-1 : Int32)) C.1 C.2.1 dX5_orders_110 (by decide) ?_
                  refine lv_ixor C.1 C.2.1 dX5_orders_111 ?_
                  refine lv_iand C.1 C.2.1 dX5_orders_112 ?_
                  refine lv_if_ne (tgt := 120) C.1 C.2.1 dX5_orders_113 (by decide) (fun c_12 => ?_) (fun c_12 => ?_)
                  · have hF := kh_iff hF c_12
                    exact wL120 y4_58 y5_58 _ _ _ hF hw hS (kh_sub hl [1, 2, 3, 4, 5, 6] rfl)
                  · have hF := kh_ift hF c_12
                    refine lv_iconst (v := (1 : Int32)) C.1 C.2.1 dX5_orders_116 (by decide) ?_
                    refine lv_goto (tgt := 121) C.1 C.2.1 dX5_orders_117 (by decide) ?_
                    exact wL121 y4_58 y5_58 (1 : Int32) _ _ _ hF hw hS (kh_sub hl [1, 2, 3, 4, 5, 6] rfl)
      unfold f_X5_orders_B33 at hF
      refine lv_iload_n C.1 C.2.1 dX5_orders_33 rfl (kh_at hl 2 rfl) ?_
      refine lv_if_lt (tgt := 168) C.1 C.2.1 dX5_orders_34 (by decide) (fun c_13 => ?_) (fun c_13 => ?_)
      · have hF := kh_ift hF c_13
        have e9 := Option.some.inj hF
        rcases hb_33 with ⟨a9, h8, h9⟩ | h8
        · exact absurd (e9.trans h8) (fun z => nomatch z)
        have h7 := Sum.inr.inj (e9.trans h8)
        have hF := (congrArg (f_X5_orders_A33 x1_c33) h7).trans hA_33
        exact wL168 σ_33 _ _ _ hF hw hS (kh_sub hl [0] rfl)
      · have hF := kh_iff hF c_13
        refine lv_aload_n C.1 C.2.1 dX5_orders_37 rfl (kh_at hl 0 rfl) ?_
        refine lv_iload_n C.1 C.2.1 dX5_orders_38 rfl (kh_at hl 1 rfl) ?_
        refine lv_aload_n C.1 C.2.1 dX5_orders_39 rfl (kh_at hl 0 rfl) ?_
        refine kh_get C hw 15 4 rfl (kh_z15 σ_33) kh_kd15 (Cn := RX5) (T := TX5) (N := 33) rfl (Nat.le_of_ble_eq_true rfl) k_7 (kf_15_4 ad σ_33 0) dX5_orders_40 ?_
        refine lv_iload_n C.1 C.2.1 dX5_orders_43 rfl (kh_at hl 1 rfl) ?_
        obtain ⟨g_14, hF⟩ := kh_gd_ok hF
        refine kh_iald C hw 24 rfl (kh_z24 σ_33) kh_kd24 g_14 dX5_orders_44 ?_
        refine lv_iload_n C.1 C.2.1 dX5_orders_45 rfl (kh_at hl 2 rfl) ?_
        obtain ⟨r_15, h_15, hF⟩ := kh_bd_ok hF
        refine kh_calli (va_runV (As := [.int x1_c33, .int (σ_33 24 0 0 x1_c33.toNatClampNeg), .int y2_33]) (rest := []) ⟨C.1, C.2.1, C.2.2.1, C.2.2.2.1, C.2.2.2.2.1⟩ (c_X5_heldBy l D ca A ad σ_33 x1_c33 (σ_33 24 0 0 x1_c33.toNatClampNeg) y2_33 h_15) (cwV 3 C.2.2.2.2.1 gX5_orders_X5_heldBy rfl rfl rfl (by decide +kernel) ⟨Nat.le_of_ble_eq_true rfl, Nat.le_of_ble_eq_true rfl⟩) (kh_preV C hw hS 15 (kh_z15 σ_33) kh_kd15 rfl) rfl rfl hl.1.1 rfl (lv_room (kh_sum kh_an (Nat.le_of_ble_eq_true rfl))) dX5_orders_46 ⟨Nat.le_of_ble_eq_true rfl, Nat.le_of_ble_eq_true rfl⟩) hS (kh_mp h_15) (fun H locs hw hS => ?_)
        refine kh_istore_n (lv' := [(3, .int r_15), (0, .ref (ad 15 0)), (1, .int x1_c33), (2, .int y2_33)]) C.1 C.2.1 dX5_orders_49 rfl hl (by decide) rfl (fun ls hl => ?_)
        refine lv_iload_n C.1 C.2.1 dX5_orders_50 rfl (kh_at hl 0 rfl) ?_
        refine lv_iconst (v := (1 : Int32)) C.1 C.2.1 dX5_orders_51 (by decide) ?_
        refine lv_iand C.1 C.2.1 dX5_orders_52 ?_
        refine kh_istore (lv' := [(4, .int (r_15 &&& (1 : Int32))), (3, .int r_15), (0, .ref (ad 15 0)), (1, .int x1_c33), (2, .int y2_33)]) C.1 C.2.1 dX5_orders_53 hl (by decide) rfl (fun ls hl => ?_)
        refine lv_iconst (v := (0 : Int32)) C.1 C.2.1 dX5_orders_55 (by decide) ?_
        refine kh_istore (lv' := [(5, .int (0 : Int32)), (4, .int (r_15 &&& (1 : Int32))), (3, .int r_15), (0, .ref (ad 15 0)), (1, .int x1_c33), (2, .int y2_33)]) C.1 C.2.1 dX5_orders_56 hl (by decide) rfl (fun ls hl => ?_)
        obtain ⟨b_58, hb_58, hF⟩ := kh_bd_ok hF
        exact wB58 σ_33 y2_33 r_15 b_58 hF _ (r_15 &&& (1 : Int32)) (0 : Int32) _ _ _ hb_58 hw hS (kh_sub hl [3, 4, 5, 2, 1, 0] rfl)
  have wL14 : ∀ (ρ_14 : kh_S) (x1_14 : Int32) (t1_14 : Int32) (H : Heap) (locs : List Loc) (ls : Array Slot), f_X5_orders_L14 ρ_14 x1_14 t1_14 = some q0 → kh_w D ca A ad ρ_14 H → va_S A s.heap H locs → kh_lv ls 8 [(0, .ref (ad 15 0)), (1, .int x1_14)] → W p l e (headSpec wsX5_orders ({ frames := 2, cells := 0, slots := 0, locals := 43 } : Room)).room s m ([.ref (ad 15 0), .int x1]).toArray below meth c H locs 0 0 (MQ below (kh_Qi D ca A ad (f_X5_orders ρ x1)) ([.ref (ad 15 0), .int x1]).toArray s 0 0 A) (F0 m 14 ls [.int t1_14, .ref (ad 15 0)]) := by
    intro ρ_14 x1_14 t1_14 H locs ls hF hw hS hl
    unfold f_X5_orders_L14 at hF
    obtain ⟨r_16, ρ_16, h_16, hF⟩ := kh_bd2_ok hF
    refine kh_calli (va_runV (As := [.int t1_14]) (rest := []) ⟨C.1, C.2.1, C.2.2.1, C.2.2.2.1, C.2.2.2.2.1⟩ (c_X5_refused l D ca A ad ρ_14 t1_14 h_16) (cwV 1 C.2.2.2.2.1 gX5_orders_X5_refused rfl rfl rfl (by decide +kernel) ⟨Nat.le_of_ble_eq_true rfl, Nat.le_of_ble_eq_true rfl⟩) (kh_preV C hw hS 15 (kh_z15 ρ_14) kh_kd15 rfl) rfl rfl hl.1.1 rfl (lv_room (kh_sum kh_an (Nat.le_of_ble_eq_true rfl))) dX5_orders_14 ⟨Nat.le_of_ble_eq_true rfl, Nat.le_of_ble_eq_true rfl⟩) hS h_16 (fun H locs hw hS => ?_)
    refine lv_if_eq (tgt := 22) C.1 C.2.1 dX5_orders_17 (by decide) (fun c_17 => ?_) (fun c_17 => ?_)
    · have hF := kh_ift hF c_17
      refine lv_iconst (v := (1 : Int32)) C.1 C.2.1 dX5_orders_22 (by decide) ?_
      refine lv_aload_n C.1 C.2.1 dX5_orders_23 rfl (kh_at hl 0 rfl) ?_
      refine kh_get C hw 15 5 rfl (kh_z15 ρ_16) kh_kd15 (Cn := RX5) (T := TX5) (N := 33) rfl (Nat.le_of_ble_eq_true rfl) k_13 (kf_15_5 ad ρ_16 0) dX5_orders_24 ?_
      refine lv_iload_n C.1 C.2.1 dX5_orders_27 rfl (kh_at hl 1 rfl) ?_
      obtain ⟨g_18, hF⟩ := kh_gd_ok hF
      refine kh_iald C hw 25 rfl (kh_z25 ρ_16) kh_kd25 g_18 dX5_orders_28 ?_
      refine lv_ishl C.1 C.2.1 dX5_orders_29 ?_
      refine lv_iconst (v := (1 : Int32)) C.1 C.2.1 dX5_orders_30 (by decide) ?_
      refine lv_isub C.1 C.2.1 dX5_orders_31 ?_
      refine kh_istore_n (lv' := [(2, .int (((1 : Int32) <<< ((ρ_16 25 0 0 x1_14.toNatClampNeg) &&& 31)) - (1 : Int32))), (0, .ref (ad 15 0)), (1, .int x1_14)]) C.1 C.2.1 dX5_orders_32 rfl hl (by decide) rfl (fun ls hl => ?_)
      obtain ⟨b_33, hb_33, hF⟩ := kh_bd_ok hF
      exact wB33 x1_14 b_33 hF _ ρ_16 (((1 : Int32) <<< ((ρ_16 25 0 0 x1_14.toNatClampNeg) &&& 31)) - (1 : Int32)) _ _ _ hb_33 hw hS (kh_sub hl [1, 2, 0] rfl)
    · have hF := kh_iff hF c_17
      refine lv_iconst (v := (0 : Int32)) C.1 C.2.1 dX5_orders_20 (by decide) ?_
      exact W.iret (v := (0 : Int32)) C.1 C.2.1 hr (fun t ht hW => ⟨⟨(0 : Int32), ρ_16, rfl, hF0.trans hF.symm, kh_bk ht hw⟩, hS.F ht⟩) hS.2.2 dX5_orders_21
  refine lv_aload_n C.1 C.2.1 dX5_orders_0 rfl (kh_at hl 0 rfl) ?_
  refine lv_aload_n C.1 C.2.1 dX5_orders_1 rfl (kh_at hl 0 rfl) ?_
  refine lv_iload_n C.1 C.2.1 dX5_orders_2 rfl (kh_at hl 1 rfl) ?_
  obtain ⟨r_19, h_19, hF⟩ := kh_bd_ok hF
  refine kh_calli (va_runV (As := [.int x1]) (rest := [.ref (ad 15 0)]) ⟨C.1, C.2.1, C.2.2.1, C.2.2.2.1, C.2.2.2.2.1⟩ (c_X5_isRoom l D ca A ad ρ x1 h_19) (cwV 1 C.2.2.2.2.1 gX5_orders_X5_isRoom rfl rfl rfl (by decide +kernel) ⟨Nat.le_of_ble_eq_true rfl, Nat.le_of_ble_eq_true rfl⟩) (kh_preV C hw hS 15 (kh_z15 ρ) kh_kd15 rfl) rfl rfl hl.1.1 rfl (lv_room (kh_sum (kh_ac rfl kh_an) (Nat.le_of_ble_eq_true rfl))) dX5_orders_3 ⟨Nat.le_of_ble_eq_true rfl, Nat.le_of_ble_eq_true rfl⟩) hS (kh_mp h_19) (fun H locs hw hS => ?_)
  refine lv_if_eq (tgt := 13) C.1 C.2.1 dX5_orders_6 (by decide) (fun c_20 => ?_) (fun c_20 => ?_)
  · have hF := kh_ift hF c_20
    refine lv_iconst (v := (1 : Int32)) C.1 C.2.1 dX5_orders_13 (by decide) ?_
    exact wL14 ρ x1 (1 : Int32) _ _ _ hF hw hS (kh_sub hl [0, 1] rfl)
  · have hF := kh_iff hF c_20
    refine lv_iconst (v := (0 : Int32)) C.1 C.2.1 dX5_orders_9 (by decide) ?_
    refine lv_goto (tgt := 14) C.1 C.2.1 dX5_orders_10 (by decide) ?_
    exact wL14 ρ x1 (0 : Int32) _ _ _ hF hw hS (kh_sub hl [0, 1] rfl)

def f_X5_ordersAnew (ρ : kh_S) (x1 : Int32) : Option (Int32 × kh_S) := kh_bd2 (f_X5_orders ρ x1) (fun r_1 ρ_1 => some (r_1, ρ_1))
set_option maxHeartbeats 4000000 in
set_option maxRecDepth 100000 in
theorem c_X5_ordersAnew (l : Launch) (D : va_G) (ca : Nat → ClassId) (A : Nat → Prop) (ad : Nat → Nat → Nat) (ρ : kh_S) (x1 : Int32) {q0 : Int32 × kh_S} (hF0 : f_X5_ordersAnew ρ x1 = some q0) : Met l yX5_ordersAnew wsX5_ordersAnew ({ frames := 3, cells := 0, slots := 0, locals := 70 } : Room) (va_Pc [.ref (ad 15 0), .int x1] (kh_I D ca A ad ρ)) (kh_Qi D ca A ad (f_X5_ordersAnew ρ x1)) 0 0 A := by
  refine Met.ofW (cc := cX5_ordersAnew) (maxL := 2) (ret := (some .int)) (by decide) rfl ?_
  intro p e s m args below meth c s₁ B hml hv
  obtain ⟨rfl, hK, hw, hA⟩ := hv
  have C : kh_C p s m ([.ref (ad 15 0), .int x1]).toArray c cX5_ordersAnew 2 RX5 wsX5_ordersAnew D ca A := ⟨B.exec, B.bytes, hml, findClass_of_methodNamed B.named, atoms_spec (ws := wsX5_ordersAnew) B.pre, hK, hA⟩
  have hr := B.returns
  have hlocks := B.notSynchronized
  have hS : va_S A s.heap s.heap [] := va_S.rf
  have hl := kh_entry ([.ref (ad 15 0), .int x1]) (n := 2) (kh_ac rfl (kh_ac rfl kh_an)) (Nat.le_of_ble_eq_true rfl)
  rw [lg_entry_eq]
  generalize (lg_sl ([.ref (ad 15 0), .int x1]) ++ List.replicate (2 - (lg_sl ([.ref (ad 15 0), .int x1])).length) Slot.unset).toArray = ls at hl ⊢
  have hl : kh_lv ls 2 [(0, .ref (ad 15 0)), (1, .int x1)] := hl
  have hF := hF0
  unfold f_X5_ordersAnew at hF
  refine lv_aload_n C.1 C.2.1 dX5_ordersAnew_0 rfl (kh_at hl 0 rfl) ?_
  refine lv_iload_n C.1 C.2.1 dX5_ordersAnew_1 rfl (kh_at hl 1 rfl) ?_
  obtain ⟨r_1, ρ_1, h_1, hF⟩ := kh_bd2_ok hF
  refine kh_calli (va_runV (As := [.int x1]) (rest := []) ⟨C.1, C.2.1, C.2.2.1, C.2.2.2.1, C.2.2.2.2.1⟩ (c_X5_orders l D ca A ad ρ x1 h_1) (cwV 1 C.2.2.2.2.1 gX5_ordersAnew_X5_orders rfl rfl rfl (by decide +kernel) ⟨Nat.le_of_ble_eq_true rfl, Nat.le_of_ble_eq_true rfl⟩) (kh_preV C hw hS 15 (kh_z15 ρ) kh_kd15 rfl) rfl rfl hl.1.1 rfl (lv_room (kh_sum kh_an (Nat.le_of_ble_eq_true rfl))) dX5_ordersAnew_2 ⟨Nat.le_of_ble_eq_true rfl, Nat.le_of_ble_eq_true rfl⟩) hS h_1 (fun H locs hw hS => ?_)
  exact W.iret (v := r_1) C.1 C.2.1 hr (fun t ht hW => ⟨⟨r_1, ρ_1, rfl, hF0.trans hF.symm, kh_bk ht hw⟩, hS.F ht⟩) hS.2.2 dX5_ordersAnew_5

def f_X5_bookingFor_L50 (ρ : kh_S) : Option (Int32) := some (-1 : Int32)
def f_X5_bookingFor_L42 (ρ : kh_S) (x2_42 : Int32) : Option (Int32) := some x2_42
def f_X5_bookingFor_L44 (ρ : kh_S) (x1_c2 : Int32) (x2_44 : Int32) : Option ((Int32) ⊕ ((Int32) ⊕ (Unit))) := some (.inl (x2_44 + (1 : Int32)))
def f_X5_bookingFor_B2 (ρ : kh_S) (x1_c2 : Int32) (y2_2 : Int32) : Option ((Int32) ⊕ ((Int32) ⊕ (Unit))) := if (ρ 15 27 0 0) ≤ y2_2 then some (.inr (.inr ())) else kh_gd (kh_in y2_2 30) (if (ρ 48 0 0 y2_2.toNatClampNeg) = x1_c2 then if (ρ 50 0 0 y2_2.toNatClampNeg) = 0 then if (ρ 15 1 0 0) < (ρ 49 0 0 y2_2.toNatClampNeg) then f_X5_bookingFor_L44 ρ x1_c2 y2_2 else some (.inr (.inl y2_2)) else f_X5_bookingFor_L44 ρ x1_c2 y2_2 else f_X5_bookingFor_L44 ρ x1_c2 y2_2)
def f_X5_bookingFor_A2 (ρ : kh_S) (x1_c2 : Int32) : ((Int32) ⊕ (Unit)) → Option (Int32) := (Sum.elim (fun u : Int32 => f_X5_bookingFor_L42 ρ u) (fun u : Unit => f_X5_bookingFor_L50 ρ))
def f_X5_bookingFor (ρ : kh_S) (x1 : Int32) : Option (Int32) := kh_bd (kh_lp (fun a : Int32 => f_X5_bookingFor_B2 ρ x1 a) 9999 (0 : Int32)) (f_X5_bookingFor_A2 ρ x1)
set_option maxHeartbeats 4000000 in
set_option maxRecDepth 100000 in
theorem c_X5_bookingFor (l : Launch) (D : va_G) (ca : Nat → ClassId) (A : Nat → Prop) (ad : Nat → Nat → Nat) (ρ : kh_S) (x1 : Int32) {q0 : Int32} (hF0 : f_X5_bookingFor ρ x1 = some q0) : Met l yX5_bookingFor wsX5_bookingFor ({ frames := 0, cells := 0, slots := 0, locals := 0 } : Room) (va_Pc [.ref (ad 15 0), .int x1] (kh_I D ca A ad ρ)) (kh_Qi D ca A ad (kh_pu (f_X5_bookingFor ρ x1) ρ)) 0 0 A := by
  refine Met.ofW (cc := cX5_bookingFor) (maxL := 3) (ret := (some .int)) (by decide) rfl ?_
  intro p e s m args below meth c s₁ B hml hv
  obtain ⟨rfl, hK, hw, hA⟩ := hv
  have C : kh_C p s m ([.ref (ad 15 0), .int x1]).toArray c cX5_bookingFor 3 RX5 wsX5_bookingFor D ca A := ⟨B.exec, B.bytes, hml, findClass_of_methodNamed B.named, atoms_spec (ws := wsX5_bookingFor) B.pre, hK, hA⟩
  have hr := B.returns
  have hlocks := B.notSynchronized
  have hS : va_S A s.heap s.heap [] := va_S.rf
  have hl := kh_entry ([.ref (ad 15 0), .int x1]) (n := 3) (kh_ac rfl (kh_ac rfl kh_an)) (Nat.le_of_ble_eq_true rfl)
  rw [lg_entry_eq]
  generalize (lg_sl ([.ref (ad 15 0), .int x1]) ++ List.replicate (3 - (lg_sl ([.ref (ad 15 0), .int x1])).length) Slot.unset).toArray = ls at hl ⊢
  have hl : kh_lv ls 3 [(0, .ref (ad 15 0)), (1, .int x1)] := hl
  have k_106 := C.2.2.2.2.1 (.fieldLink RX5 106 "KeylessHallModel" "bookings" "I") (by decide +kernel)
  have k_77 := C.2.2.2.2.1 (.fieldLink RX5 77 "KeylessHallModel" "bookRoom" "[I") (by decide +kernel)
  have k_83 := C.2.2.2.2.1 (.fieldLink RX5 83 "KeylessHallModel" "bookHow" "[I") (by decide +kernel)
  have k_80 := C.2.2.2.2.1 (.fieldLink RX5 80 "KeylessHallModel" "bookMinute" "[I") (by decide +kernel)
  have k_141 := C.2.2.2.2.1 (.fieldLink RX5 141 "KeylessHallModel" "minute" "I") (by decide +kernel)
  have hF := hF0
  unfold f_X5_bookingFor at hF
  have wL50 : ∀ (H : Heap) (locs : List Loc) (ls : Array Slot), f_X5_bookingFor_L50 ρ = some q0 → kh_w D ca A ad ρ H → va_S A s.heap H locs → kh_lv ls 3 [] → W p l e (headSpec wsX5_bookingFor ({ frames := 0, cells := 0, slots := 0, locals := 0 } : Room)).room s m ([.ref (ad 15 0), .int x1]).toArray below meth c H locs 0 0 (MQ below (kh_Qi D ca A ad (kh_pu (f_X5_bookingFor ρ x1) ρ)) ([.ref (ad 15 0), .int x1]).toArray s 0 0 A) (F0 m 50 ls []) := by
    intro  H locs ls hF hw hS hl
    unfold f_X5_bookingFor_L50 at hF
    refine lv_iconst (v := (-1 : Int32)) C.1 C.2.1 dX5_bookingFor_50 (by decide) ?_
    exact W.iret (v := (-1 : Int32)) C.1 C.2.1 hr (fun t ht hW => ⟨⟨(-1 : Int32), ρ, rfl, kh_mp (hF0.trans hF.symm), kh_bk ht hw⟩, hS.F ht⟩) hS.2.2 dX5_bookingFor_51
  have wL42 : ∀ (x2_42 : Int32) (H : Heap) (locs : List Loc) (ls : Array Slot), f_X5_bookingFor_L42 ρ x2_42 = some q0 → kh_w D ca A ad ρ H → va_S A s.heap H locs → kh_lv ls 3 [(2, .int x2_42)] → W p l e (headSpec wsX5_bookingFor ({ frames := 0, cells := 0, slots := 0, locals := 0 } : Room)).room s m ([.ref (ad 15 0), .int x1]).toArray below meth c H locs 0 0 (MQ below (kh_Qi D ca A ad (kh_pu (f_X5_bookingFor ρ x1) ρ)) ([.ref (ad 15 0), .int x1]).toArray s 0 0 A) (F0 m 42 ls []) := by
    intro x2_42 H locs ls hF hw hS hl
    unfold f_X5_bookingFor_L42 at hF
    refine lv_iload_n C.1 C.2.1 dX5_bookingFor_42 rfl (kh_at hl 0 rfl) ?_
    exact W.iret (v := x2_42) C.1 C.2.1 hr (fun t ht hW => ⟨⟨x2_42, ρ, rfl, kh_mp (hF0.trans hF.symm), kh_bk ht hw⟩, hS.F ht⟩) hS.2.2 dX5_bookingFor_43
  have wB2 : ∀ (x1_c2 : Int32) (b : (Int32) ⊕ (Unit)), f_X5_bookingFor_A2 ρ x1_c2 b = some q0 → ∀ (n : Nat) (y2_2 : Int32) (H : Heap) (locs : List Loc) (ls : Array Slot), kh_lp (fun a : Int32 => f_X5_bookingFor_B2 ρ x1_c2 a) n y2_2 = some b → kh_w D ca A ad ρ H → va_S A s.heap H locs → kh_lv ls 3 [(0, .ref (ad 15 0)), (1, .int x1_c2), (2, .int y2_2)] → W p l e (headSpec wsX5_bookingFor ({ frames := 0, cells := 0, slots := 0, locals := 0 } : Room)).room s m ([.ref (ad 15 0), .int x1]).toArray below meth c H locs 0 0 (MQ below (kh_Qi D ca A ad (kh_pu (f_X5_bookingFor ρ x1) ρ)) ([.ref (ad 15 0), .int x1]).toArray s 0 0 A) (F0 m 2 ls []) := by
    intro x1_c2 b hA_2 n
    induction n with
    | zero => intro y2_2 H locs ls h9; exact absurd h9 (fun z => nomatch z)
    | succ n ih_2 =>
      intro y2_2 H locs ls hb_2 hw hS hl
      obtain ⟨q_2, hF, hb_2⟩ := kh_lp_ok hb_2
      have hF : f_X5_bookingFor_B2 ρ x1_c2 y2_2 = some q_2 := hF
      have wL44 : ∀ (x2_44 : Int32) (H : Heap) (locs : List Loc) (ls : Array Slot), f_X5_bookingFor_L44 ρ x1_c2 x2_44 = some q_2 → kh_w D ca A ad ρ H → va_S A s.heap H locs → kh_lv ls 3 [(0, .ref (ad 15 0)), (1, .int x1_c2), (2, .int x2_44)] → W p l e (headSpec wsX5_bookingFor ({ frames := 0, cells := 0, slots := 0, locals := 0 } : Room)).room s m ([.ref (ad 15 0), .int x1]).toArray below meth c H locs 0 0 (MQ below (kh_Qi D ca A ad (kh_pu (f_X5_bookingFor ρ x1) ρ)) ([.ref (ad 15 0), .int x1]).toArray s 0 0 A) (F0 m 44 ls []) := by
        intro x2_44 H locs ls hF hw hS hl
        unfold f_X5_bookingFor_L44 at hF
        refine kh_iinc (v := x2_44 + (1 : Int32)) (lv' := [(2, .int (x2_44 + (1 : Int32))), (0, .ref (ad 15 0)), (1, .int x1_c2)]) C.1 C.2.1 dX5_bookingFor_44 hl (k := 2) rfl (by rfl) (by decide) rfl (fun ls hl => ?_)
        refine lv_goto (tgt := 2) C.1 C.2.1 dX5_bookingFor_47 (by decide) ?_
        have e9 := Option.some.inj hF
        rcases hb_2 with ⟨a9, h8, h9⟩ | h8
        · have h7 := Sum.inl.inj (e9.trans h8)
          subst h7
          exact ih_2 _ _ _ _ h9 hw hS (kh_sub hl [1, 2, 0] rfl)
        · exact absurd (e9.trans h8) (fun z => nomatch z)
      unfold f_X5_bookingFor_B2 at hF
      refine lv_iload_n C.1 C.2.1 dX5_bookingFor_2 rfl (kh_at hl 2 rfl) ?_
      refine lv_aload_n C.1 C.2.1 dX5_bookingFor_3 rfl (kh_at hl 0 rfl) ?_
      refine kh_get C hw 15 27 rfl (kh_z15 ρ) kh_kd15 (Cn := RX5) (T := TX5) (N := 33) rfl (Nat.le_of_ble_eq_true rfl) k_106 (kf_15_27 ad ρ 0) dX5_bookingFor_4 ?_
      refine lv_icmp_ge (tgt := 50) C.1 C.2.1 dX5_bookingFor_7 (by decide) (fun c_1 => ?_) (fun c_1 => ?_)
      · have hF := kh_ift hF c_1
        have e9 := Option.some.inj hF
        rcases hb_2 with ⟨a9, h8, h9⟩ | h8
        · exact absurd (e9.trans h8) (fun z => nomatch z)
        have h7 := Sum.inr.inj (e9.trans h8)
        have hF := (congrArg (f_X5_bookingFor_A2 ρ x1_c2) h7).trans hA_2
        exact wL50  _ _ _ hF hw hS (kh_sub hl [] rfl)
      · have hF := kh_iff hF c_1
        refine lv_aload_n C.1 C.2.1 dX5_bookingFor_10 rfl (kh_at hl 0 rfl) ?_
        refine kh_get C hw 15 28 rfl (kh_z15 ρ) kh_kd15 (Cn := RX5) (T := TX5) (N := 33) rfl (Nat.le_of_ble_eq_true rfl) k_77 (kf_15_28 ad ρ 0) dX5_bookingFor_11 ?_
        refine lv_iload_n C.1 C.2.1 dX5_bookingFor_14 rfl (kh_at hl 2 rfl) ?_
        obtain ⟨g_2, hF⟩ := kh_gd_ok hF
        refine kh_iald C hw 48 rfl (kh_z48 ρ) kh_kd48 g_2 dX5_bookingFor_15 ?_
        refine lv_iload_n C.1 C.2.1 dX5_bookingFor_16 rfl (kh_at hl 1 rfl) ?_
        refine lv_icmp_ne (tgt := 44) C.1 C.2.1 dX5_bookingFor_17 (by decide) (fun c_3 => ?_) (fun c_3 => ?_)
        · have hF := kh_iff hF c_3
          exact wL44 y2_2 _ _ _ hF hw hS (kh_sub hl [0, 1, 2] rfl)
        · have hF := kh_ift hF c_3
          refine lv_aload_n C.1 C.2.1 dX5_bookingFor_20 rfl (kh_at hl 0 rfl) ?_
          refine kh_get C hw 15 30 rfl (kh_z15 ρ) kh_kd15 (Cn := RX5) (T := TX5) (N := 33) rfl (Nat.le_of_ble_eq_true rfl) k_83 (kf_15_30 ad ρ 0) dX5_bookingFor_21 ?_
          refine lv_iload_n C.1 C.2.1 dX5_bookingFor_24 rfl (kh_at hl 2 rfl) ?_
          refine kh_iald C hw 50 rfl (kh_z50 ρ) kh_kd50 g_2 dX5_bookingFor_25 ?_
          refine lv_if_ne (tgt := 44) C.1 C.2.1 dX5_bookingFor_26 (by decide) (fun c_4 => ?_) (fun c_4 => ?_)
          · have hF := kh_iff hF c_4
            exact wL44 y2_2 _ _ _ hF hw hS (kh_sub hl [0, 1, 2] rfl)
          · have hF := kh_ift hF c_4
            refine lv_aload_n C.1 C.2.1 dX5_bookingFor_29 rfl (kh_at hl 0 rfl) ?_
            refine kh_get C hw 15 29 rfl (kh_z15 ρ) kh_kd15 (Cn := RX5) (T := TX5) (N := 33) rfl (Nat.le_of_ble_eq_true rfl) k_80 (kf_15_29 ad ρ 0) dX5_bookingFor_30 ?_
            refine lv_iload_n C.1 C.2.1 dX5_bookingFor_33 rfl (kh_at hl 2 rfl) ?_
            refine kh_iald C hw 49 rfl (kh_z49 ρ) kh_kd49 g_2 dX5_bookingFor_34 ?_
            refine lv_aload_n C.1 C.2.1 dX5_bookingFor_35 rfl (kh_at hl 0 rfl) ?_
            refine kh_get C hw 15 1 rfl (kh_z15 ρ) kh_kd15 (Cn := RX5) (T := TX5) (N := 33) rfl (Nat.le_of_ble_eq_true rfl) k_141 (kf_15_1 ad ρ 0) dX5_bookingFor_36 ?_
            refine lv_icmp_gt (tgt := 44) C.1 C.2.1 dX5_bookingFor_39 (by decide) (fun c_5 => ?_) (fun c_5 => ?_)
            · have hF := kh_ift hF c_5
              exact wL44 y2_2 _ _ _ hF hw hS (kh_sub hl [0, 1, 2] rfl)
            · have hF := kh_iff hF c_5
              have e9 := Option.some.inj hF
              rcases hb_2 with ⟨a9, h8, h9⟩ | h8
              · exact absurd (e9.trans h8) (fun z => nomatch z)
              have h7 := Sum.inr.inj (e9.trans h8)
              have hF := (congrArg (f_X5_bookingFor_A2 ρ x1_c2) h7).trans hA_2
              exact wL42 y2_2 _ _ _ hF hw hS (kh_sub hl [2] rfl)
  refine lv_iconst (v := (0 : Int32)) C.1 C.2.1 dX5_bookingFor_0 (by decide) ?_
  refine kh_istore_n (lv' := [(2, .int (0 : Int32)), (0, .ref (ad 15 0)), (1, .int x1)]) C.1 C.2.1 dX5_bookingFor_1 rfl hl (by decide) rfl (fun ls hl => ?_)
  obtain ⟨b_2, hb_2, hF⟩ := kh_bd_ok hF
  exact wB2 x1 b_2 hF _ (0 : Int32) _ _ _ hb_2 hw hS (kh_sub hl [1, 2, 0] rfl)

def f_X5_isNear_L69 (ρ : kh_S) (x2_69 : Int32) : Option (Int32) := kh_gd (kh_b x2_69) (some x2_69)
def f_X5_isNear_L62 (ρ : kh_S) (x1_c4 : Int32) (x3_62 : Int32) (t0_62 : Int32) : Option ((Int32 × Int32) ⊕ (Int32)) := some (.inl (t0_62, x3_62 + (1 : Int32)))
def f_X5_isNear_L61 (ρ : kh_S) (x1_c4 : Int32) (x3_61 : Int32) : Option ((Int32 × Int32) ⊕ (Int32)) := f_X5_isNear_L62 ρ x1_c4 x3_61 (0 : Int32)
def f_X5_isNear_L57 (ρ : kh_S) (x1_c4 : Int32) (x3_57 : Int32) : Option ((Int32 × Int32) ⊕ (Int32)) := f_X5_isNear_L62 ρ x1_c4 x3_57 (1 : Int32)
def f_X5_isNear_B4 (ρ : kh_S) (x1_c4 : Int32) (y2_4 : Int32) (y3_4 : Int32) : Option ((Int32 × Int32) ⊕ (Int32)) := if (ρ 15 27 0 0) ≤ y3_4 then some (.inr y2_4) else if y2_4 = 0 then kh_gd (kh_in y3_4 30) (if (ρ 48 0 0 y3_4.toNatClampNeg) = x1_c4 then if (ρ 50 0 0 y3_4.toNatClampNeg) = 0 then kh_bd (f_X5_gapOf ρ x1_c4) (fun r_7 => if ((60 : Int32) + r_7) ≤ ((ρ 49 0 0 y3_4.toNatClampNeg) - (ρ 15 1 0 0)) then f_X5_isNear_L61 ρ x1_c4 y3_4 else f_X5_isNear_L57 ρ x1_c4 y3_4) else f_X5_isNear_L61 ρ x1_c4 y3_4 else f_X5_isNear_L61 ρ x1_c4 y3_4) else f_X5_isNear_L57 ρ x1_c4 y3_4
def f_X5_isNear_A4 (ρ : kh_S) (x1_c4 : Int32) : (Int32) → Option (Int32) := (fun u : Int32 => f_X5_isNear_L69 ρ u)
def f_X5_isNear (ρ : kh_S) (x1 : Int32) : Option (Int32) := kh_bd (kh_lp (fun a : Int32 × Int32 => f_X5_isNear_B4 ρ x1 a.1 a.2) 9999 ((0 : Int32), (0 : Int32))) (f_X5_isNear_A4 ρ x1)
set_option maxHeartbeats 4000000 in
set_option maxRecDepth 100000 in
theorem c_X5_isNear (l : Launch) (D : va_G) (ca : Nat → ClassId) (A : Nat → Prop) (ad : Nat → Nat → Nat) (ρ : kh_S) (x1 : Int32) {q0 : Int32} (hF0 : f_X5_isNear ρ x1 = some q0) : Met l yX5_isNear wsX5_isNear ({ frames := 1, cells := 0, slots := 0, locals := 23 } : Room) (va_Pc [.ref (ad 15 0), .int x1] (kh_I D ca A ad ρ)) (kh_Qi D ca A ad (kh_pu (f_X5_isNear ρ x1) ρ)) 0 0 A := by
  refine Met.ofW (cc := cX5_isNear) (maxL := 4) (ret := (some .boolean)) (by decide) rfl ?_
  intro p e s m args below meth c s₁ B hml hv
  obtain ⟨rfl, hK, hw, hA⟩ := hv
  have C : kh_C p s m ([.ref (ad 15 0), .int x1]).toArray c cX5_isNear 4 RX5 wsX5_isNear D ca A := ⟨B.exec, B.bytes, hml, findClass_of_methodNamed B.named, atoms_spec (ws := wsX5_isNear) B.pre, hK, hA⟩
  have hr := B.returns
  have hlocks := B.notSynchronized
  have hS : va_S A s.heap s.heap [] := va_S.rf
  have hl := kh_entry ([.ref (ad 15 0), .int x1]) (n := 4) (kh_ac rfl (kh_ac rfl kh_an)) (Nat.le_of_ble_eq_true rfl)
  rw [lg_entry_eq]
  generalize (lg_sl ([.ref (ad 15 0), .int x1]) ++ List.replicate (4 - (lg_sl ([.ref (ad 15 0), .int x1])).length) Slot.unset).toArray = ls at hl ⊢
  have hl : kh_lv ls 4 [(0, .ref (ad 15 0)), (1, .int x1)] := hl
  have k_106 := C.2.2.2.2.1 (.fieldLink RX5 106 "KeylessHallModel" "bookings" "I") (by decide +kernel)
  have k_77 := C.2.2.2.2.1 (.fieldLink RX5 77 "KeylessHallModel" "bookRoom" "[I") (by decide +kernel)
  have k_83 := C.2.2.2.2.1 (.fieldLink RX5 83 "KeylessHallModel" "bookHow" "[I") (by decide +kernel)
  have k_80 := C.2.2.2.2.1 (.fieldLink RX5 80 "KeylessHallModel" "bookMinute" "[I") (by decide +kernel)
  have k_141 := C.2.2.2.2.1 (.fieldLink RX5 141 "KeylessHallModel" "minute" "I") (by decide +kernel)
  have hF := hF0
  unfold f_X5_isNear at hF
  have wL69 : ∀ (x2_69 : Int32) (H : Heap) (locs : List Loc) (ls : Array Slot), f_X5_isNear_L69 ρ x2_69 = some q0 → kh_w D ca A ad ρ H → va_S A s.heap H locs → kh_lv ls 4 [(2, .int x2_69)] → W p l e (headSpec wsX5_isNear ({ frames := 1, cells := 0, slots := 0, locals := 23 } : Room)).room s m ([.ref (ad 15 0), .int x1]).toArray below meth c H locs 0 0 (MQ below (kh_Qi D ca A ad (kh_pu (f_X5_isNear ρ x1) ρ)) ([.ref (ad 15 0), .int x1]).toArray s 0 0 A) (F0 m 69 ls []) := by
    intro x2_69 H locs ls hF hw hS hl
    unfold f_X5_isNear_L69 at hF
    refine lv_iload_n C.1 C.2.1 dX5_isNear_69 rfl (kh_at hl 0 rfl) ?_
    obtain ⟨g_1, hF⟩ := kh_gd_ok hF
    exact W.zret (v := x2_69) (ty := .boolean) C.1 C.2.1 hr (kh_b_ok g_1).1 (fun t ht hW => ⟨⟨x2_69, ρ, rfl, kh_mp (hF0.trans hF.symm), kh_bk ht hw⟩, hS.F ht⟩) hS.2.2 dX5_isNear_70
  have wB4 : ∀ (x1_c4 : Int32) (b : Int32), f_X5_isNear_A4 ρ x1_c4 b = some q0 → ∀ (n : Nat) (y2_4 : Int32) (y3_4 : Int32) (H : Heap) (locs : List Loc) (ls : Array Slot), kh_lp (fun a : Int32 × Int32 => f_X5_isNear_B4 ρ x1_c4 a.1 a.2) n (y2_4, y3_4) = some b → kh_w D ca A ad ρ H → va_S A s.heap H locs → kh_lv ls 4 [(0, .ref (ad 15 0)), (1, .int x1_c4), (2, .int y2_4), (3, .int y3_4)] → W p l e (headSpec wsX5_isNear ({ frames := 1, cells := 0, slots := 0, locals := 23 } : Room)).room s m ([.ref (ad 15 0), .int x1]).toArray below meth c H locs 0 0 (MQ below (kh_Qi D ca A ad (kh_pu (f_X5_isNear ρ x1) ρ)) ([.ref (ad 15 0), .int x1]).toArray s 0 0 A) (F0 m 4 ls []) := by
    intro x1_c4 b hA_4 n
    induction n with
    | zero => intro y2_4 y3_4 H locs ls h9; exact absurd h9 (fun z => nomatch z)
    | succ n ih_4 =>
      intro y2_4 y3_4 H locs ls hb_4 hw hS hl
      obtain ⟨q_4, hF, hb_4⟩ := kh_lp_ok hb_4
      have hF : f_X5_isNear_B4 ρ x1_c4 y2_4 y3_4 = some q_4 := hF
      have wL62 : ∀ (x3_62 : Int32) (t0_62 : Int32) (H : Heap) (locs : List Loc) (ls : Array Slot), f_X5_isNear_L62 ρ x1_c4 x3_62 t0_62 = some q_4 → kh_w D ca A ad ρ H → va_S A s.heap H locs → kh_lv ls 4 [(0, .ref (ad 15 0)), (1, .int x1_c4), (3, .int x3_62)] → W p l e (headSpec wsX5_isNear ({ frames := 1, cells := 0, slots := 0, locals := 23 } : Room)).room s m ([.ref (ad 15 0), .int x1]).toArray below meth c H locs 0 0 (MQ below (kh_Qi D ca A ad (kh_pu (f_X5_isNear ρ x1) ρ)) ([.ref (ad 15 0), .int x1]).toArray s 0 0 A) (F0 m 62 ls [.int t0_62]) := by
        intro x3_62 t0_62 H locs ls hF hw hS hl
        unfold f_X5_isNear_L62 at hF
        refine kh_istore_n (lv' := [(2, .int t0_62), (0, .ref (ad 15 0)), (1, .int x1_c4), (3, .int x3_62)]) C.1 C.2.1 dX5_isNear_62 rfl hl (by decide) rfl (fun ls hl => ?_)
        refine kh_iinc (v := x3_62 + (1 : Int32)) (lv' := [(3, .int (x3_62 + (1 : Int32))), (2, .int t0_62), (0, .ref (ad 15 0)), (1, .int x1_c4)]) C.1 C.2.1 dX5_isNear_63 hl (k := 3) rfl (by rfl) (by decide) rfl (fun ls hl => ?_)
        refine lv_goto (tgt := 4) C.1 C.2.1 dX5_isNear_66 (by decide) ?_
        have e9 := Option.some.inj hF
        rcases hb_4 with ⟨a9, h8, h9⟩ | h8
        · have h7 := Sum.inl.inj (e9.trans h8)
          subst h7
          exact ih_4 _ _ _ _ _ h9 hw hS (kh_sub hl [2, 3, 1, 0] rfl)
        · exact absurd (e9.trans h8) (fun z => nomatch z)
      have wL61 : ∀ (x3_61 : Int32) (H : Heap) (locs : List Loc) (ls : Array Slot), f_X5_isNear_L61 ρ x1_c4 x3_61 = some q_4 → kh_w D ca A ad ρ H → va_S A s.heap H locs → kh_lv ls 4 [(0, .ref (ad 15 0)), (1, .int x1_c4), (3, .int x3_61)] → W p l e (headSpec wsX5_isNear ({ frames := 1, cells := 0, slots := 0, locals := 23 } : Room)).room s m ([.ref (ad 15 0), .int x1]).toArray below meth c H locs 0 0 (MQ below (kh_Qi D ca A ad (kh_pu (f_X5_isNear ρ x1) ρ)) ([.ref (ad 15 0), .int x1]).toArray s 0 0 A) (F0 m 61 ls []) := by
        intro x3_61 H locs ls hF hw hS hl
        unfold f_X5_isNear_L61 at hF
        refine lv_iconst (v := (0 : Int32)) C.1 C.2.1 dX5_isNear_61 (by decide) ?_
        exact wL62 x3_61 (0 : Int32) _ _ _ hF hw hS (kh_sub hl [0, 1, 2] rfl)
      have wL57 : ∀ (x3_57 : Int32) (H : Heap) (locs : List Loc) (ls : Array Slot), f_X5_isNear_L57 ρ x1_c4 x3_57 = some q_4 → kh_w D ca A ad ρ H → va_S A s.heap H locs → kh_lv ls 4 [(0, .ref (ad 15 0)), (1, .int x1_c4), (3, .int x3_57)] → W p l e (headSpec wsX5_isNear ({ frames := 1, cells := 0, slots := 0, locals := 23 } : Room)).room s m ([.ref (ad 15 0), .int x1]).toArray below meth c H locs 0 0 (MQ below (kh_Qi D ca A ad (kh_pu (f_X5_isNear ρ x1) ρ)) ([.ref (ad 15 0), .int x1]).toArray s 0 0 A) (F0 m 57 ls []) := by
        intro x3_57 H locs ls hF hw hS hl
        unfold f_X5_isNear_L57 at hF
        refine lv_iconst (v := (1 : Int32)) C.1 C.2.1 dX5_isNear_57 (by decide) ?_
        refine lv_goto (tgt := 62) C.1 C.2.1 dX5_isNear_58 (by decide) ?_
        exact wL62 x3_57 (1 : Int32) _ _ _ hF hw hS (kh_sub hl [0, 1, 2] rfl)
      unfold f_X5_isNear_B4 at hF
      refine lv_iload_n C.1 C.2.1 dX5_isNear_4 rfl (kh_at hl 3 rfl) ?_
      refine lv_aload_n C.1 C.2.1 dX5_isNear_5 rfl (kh_at hl 0 rfl) ?_
      refine kh_get C hw 15 27 rfl (kh_z15 ρ) kh_kd15 (Cn := RX5) (T := TX5) (N := 33) rfl (Nat.le_of_ble_eq_true rfl) k_106 (kf_15_27 ad ρ 0) dX5_isNear_6 ?_
      refine lv_icmp_ge (tgt := 69) C.1 C.2.1 dX5_isNear_9 (by decide) (fun c_2 => ?_) (fun c_2 => ?_)
      · have hF := kh_ift hF c_2
        have e9 := Option.some.inj hF
        rcases hb_4 with ⟨a9, h8, h9⟩ | h8
        · exact absurd (e9.trans h8) (fun z => nomatch z)
        have h7 := Sum.inr.inj (e9.trans h8)
        have hF := (congrArg (f_X5_isNear_A4 ρ x1_c4) h7).trans hA_4
        exact wL69 y2_4 _ _ _ hF hw hS (kh_sub hl [2] rfl)
      · have hF := kh_iff hF c_2
        refine lv_iload_n C.1 C.2.1 dX5_isNear_12 rfl (kh_at hl 2 rfl) ?_
        refine lv_if_ne (tgt := 57) C.1 C.2.1 dX5_isNear_13 (by decide) (fun c_3 => ?_) (fun c_3 => ?_)
        · have hF := kh_iff hF c_3
          exact wL57 y3_4 _ _ _ hF hw hS (kh_sub hl [0, 1, 3] rfl)
        · have hF := kh_ift hF c_3
          refine lv_aload_n C.1 C.2.1 dX5_isNear_16 rfl (kh_at hl 0 rfl) ?_
          refine kh_get C hw 15 28 rfl (kh_z15 ρ) kh_kd15 (Cn := RX5) (T := TX5) (N := 33) rfl (Nat.le_of_ble_eq_true rfl) k_77 (kf_15_28 ad ρ 0) dX5_isNear_17 ?_
          refine lv_iload_n C.1 C.2.1 dX5_isNear_20 rfl (kh_at hl 3 rfl) ?_
          obtain ⟨g_4, hF⟩ := kh_gd_ok hF
          refine kh_iald C hw 48 rfl (kh_z48 ρ) kh_kd48 g_4 dX5_isNear_21 ?_
          refine lv_iload_n C.1 C.2.1 dX5_isNear_22 rfl (kh_at hl 1 rfl) ?_
          refine lv_icmp_ne (tgt := 61) C.1 C.2.1 dX5_isNear_23 (by decide) (fun c_5 => ?_) (fun c_5 => ?_)
          · have hF := kh_iff hF c_5
            exact wL61 y3_4 _ _ _ hF hw hS (kh_sub hl [0, 1, 3] rfl)
          · have hF := kh_ift hF c_5
            refine lv_aload_n C.1 C.2.1 dX5_isNear_26 rfl (kh_at hl 0 rfl) ?_
            refine kh_get C hw 15 30 rfl (kh_z15 ρ) kh_kd15 (Cn := RX5) (T := TX5) (N := 33) rfl (Nat.le_of_ble_eq_true rfl) k_83 (kf_15_30 ad ρ 0) dX5_isNear_27 ?_
            refine lv_iload_n C.1 C.2.1 dX5_isNear_30 rfl (kh_at hl 3 rfl) ?_
            refine kh_iald C hw 50 rfl (kh_z50 ρ) kh_kd50 g_4 dX5_isNear_31 ?_
            refine lv_if_ne (tgt := 61) C.1 C.2.1 dX5_isNear_32 (by decide) (fun c_6 => ?_) (fun c_6 => ?_)
            · have hF := kh_iff hF c_6
              exact wL61 y3_4 _ _ _ hF hw hS (kh_sub hl [0, 1, 3] rfl)
            · have hF := kh_ift hF c_6
              refine lv_aload_n C.1 C.2.1 dX5_isNear_35 rfl (kh_at hl 0 rfl) ?_
              refine kh_get C hw 15 29 rfl (kh_z15 ρ) kh_kd15 (Cn := RX5) (T := TX5) (N := 33) rfl (Nat.le_of_ble_eq_true rfl) k_80 (kf_15_29 ad ρ 0) dX5_isNear_36 ?_
              refine lv_iload_n C.1 C.2.1 dX5_isNear_39 rfl (kh_at hl 3 rfl) ?_
              refine kh_iald C hw 49 rfl (kh_z49 ρ) kh_kd49 g_4 dX5_isNear_40 ?_
              refine lv_aload_n C.1 C.2.1 dX5_isNear_41 rfl (kh_at hl 0 rfl) ?_
              refine kh_get C hw 15 1 rfl (kh_z15 ρ) kh_kd15 (Cn := RX5) (T := TX5) (N := 33) rfl (Nat.le_of_ble_eq_true rfl) k_141 (kf_15_1 ad ρ 0) dX5_isNear_42 ?_
              refine lv_isub C.1 C.2.1 dX5_isNear_45 ?_
              refine lv_bipush (v := (60 : Int32)) C.1 C.2.1 dX5_isNear_46 (by decide) ?_
              refine lv_aload_n C.1 C.2.1 dX5_isNear_48 rfl (kh_at hl 0 rfl) ?_
              refine lv_iload_n C.1 C.2.1 dX5_isNear_49 rfl (kh_at hl 1 rfl) ?_
              obtain ⟨r_7, h_7, hF⟩ := kh_bd_ok hF
              refine kh_calli (va_runV (As := [.int x1_c4]) (rest := [.int (60 : Int32), .int ((ρ 49 0 0 y3_4.toNatClampNeg) - (ρ 15 1 0 0))]) ⟨C.1, C.2.1, C.2.2.1, C.2.2.2.1, C.2.2.2.2.1⟩ (c_X5_gapOf l D ca A ad ρ x1_c4 h_7) (cwV 1 C.2.2.2.2.1 gX5_isNear_X5_gapOf rfl rfl rfl (by decide +kernel) ⟨Nat.le_of_ble_eq_true rfl, Nat.le_of_ble_eq_true rfl⟩) (kh_preV C hw hS 15 (kh_z15 ρ) kh_kd15 rfl) rfl rfl hl.1.1 rfl (lv_room (kh_sum (kh_ac rfl (kh_ac rfl kh_an)) (Nat.le_of_ble_eq_true rfl))) dX5_isNear_50 ⟨Nat.le_of_ble_eq_true rfl, Nat.le_of_ble_eq_true rfl⟩) hS (kh_mp h_7) (fun H locs hw hS => ?_)
              refine lv_iadd C.1 C.2.1 dX5_isNear_53 ?_
              refine lv_icmp_ge (tgt := 61) C.1 C.2.1 dX5_isNear_54 (by decide) (fun c_8 => ?_) (fun c_8 => ?_)
              · have hF := kh_ift hF c_8
                exact wL61 y3_4 _ _ _ hF hw hS (kh_sub hl [0, 1, 3] rfl)
              · have hF := kh_iff hF c_8
                exact wL57 y3_4 _ _ _ hF hw hS (kh_sub hl [0, 1, 3] rfl)
  refine lv_iconst (v := (0 : Int32)) C.1 C.2.1 dX5_isNear_0 (by decide) ?_
  refine kh_istore_n (lv' := [(2, .int (0 : Int32)), (0, .ref (ad 15 0)), (1, .int x1)]) C.1 C.2.1 dX5_isNear_1 rfl hl (by decide) rfl (fun ls hl => ?_)
  refine lv_iconst (v := (0 : Int32)) C.1 C.2.1 dX5_isNear_2 (by decide) ?_
  refine kh_istore_n (lv' := [(3, .int (0 : Int32)), (2, .int (0 : Int32)), (0, .ref (ad 15 0)), (1, .int x1)]) C.1 C.2.1 dX5_isNear_3 rfl hl (by decide) rfl (fun ls hl => ?_)
  obtain ⟨b_4, hb_4, hF⟩ := kh_bd_ok hF
  exact wB4 x1 b_4 hF _ (0 : Int32) (0 : Int32) _ _ _ hb_4 hw hS (kh_sub hl [2, 3, 1, 0] rfl)

def f_X5_come_L232 (ρ_232 : kh_S) (x5_232 : Int32) : Option (Int32 × kh_S) := some (x5_232, ρ_232)
def f_X5_come_L197 (ρ_197 : kh_S) (x1_197 : Int32) (x5_197 : Int32) : Option (Int32 × kh_S) := kh_gd (kh_in x1_197 4) (kh_gd (kh_in x5_197 30) (if (((kh_up (kh_up ρ_197 26 0 0 x1_197.toNatClampNeg (1 : Int32)) 29 0 0 x1_197.toNatClampNeg x5_197) 37 0 0 x5_197.toNatClampNeg) &&& (1 : Int32)) = (1 : Int32) then kh_bd (f_X5_leaves (kh_up (kh_up ρ_197 26 0 0 x1_197.toNatClampNeg (1 : Int32)) 29 0 0 x1_197.toNatClampNeg x5_197) x5_197 (1 : Int32)) (fun ρ_4 => f_X5_come_L232 ρ_4 x5_197) else f_X5_come_L232 (kh_up (kh_up ρ_197 26 0 0 x1_197.toNatClampNeg (1 : Int32)) 29 0 0 x1_197.toNatClampNeg x5_197) x5_197))
def f_X5_come_L89 (ρ_89 : kh_S) (x1_89 : Int32) (x3_89 : Int32) (t1_89 : Int32) : Option (Int32 × kh_S) := kh_bd2 (f_X5_refused ρ_89 t1_89) (fun r_5 ρ_5 => if r_5 = 0 then kh_gd (kh_in (ρ_5 15 14 0 0) 30) (kh_gd (kh_in x1_89 4) (kh_bd (f_X5_heldBy (kh_up (kh_up (kh_up (kh_up ρ_5 15 14 0 0 ((ρ_5 15 14 0 0) + (1 : Int32))) 35 0 0 (ρ_5 15 14 0 0).toNatClampNeg (0 : Int32)) 36 0 0 (ρ_5 15 14 0 0).toNatClampNeg x1_89) 38 0 0 (ρ_5 15 14 0 0).toNatClampNeg ((kh_up (kh_up (kh_up ρ_5 15 14 0 0 ((ρ_5 15 14 0 0) + (1 : Int32))) 35 0 0 (ρ_5 15 14 0 0).toNatClampNeg (0 : Int32)) 36 0 0 (ρ_5 15 14 0 0).toNatClampNeg x1_89) 28 0 0 x1_89.toNatClampNeg)) x1_89 ((kh_up (kh_up (kh_up (kh_up ρ_5 15 14 0 0 ((ρ_5 15 14 0 0) + (1 : Int32))) 35 0 0 (ρ_5 15 14 0 0).toNatClampNeg (0 : Int32)) 36 0 0 (ρ_5 15 14 0 0).toNatClampNeg x1_89) 38 0 0 (ρ_5 15 14 0 0).toNatClampNeg ((kh_up (kh_up (kh_up ρ_5 15 14 0 0 ((ρ_5 15 14 0 0) + (1 : Int32))) 35 0 0 (ρ_5 15 14 0 0).toNatClampNeg (0 : Int32)) 36 0 0 (ρ_5 15 14 0 0).toNatClampNeg x1_89) 28 0 0 x1_89.toNatClampNeg)) 24 0 0 x1_89.toNatClampNeg) ((kh_up (kh_up (kh_up (kh_up ρ_5 15 14 0 0 ((ρ_5 15 14 0 0) + (1 : Int32))) 35 0 0 (ρ_5 15 14 0 0).toNatClampNeg (0 : Int32)) 36 0 0 (ρ_5 15 14 0 0).toNatClampNeg x1_89) 38 0 0 (ρ_5 15 14 0 0).toNatClampNeg ((kh_up (kh_up (kh_up ρ_5 15 14 0 0 ((ρ_5 15 14 0 0) + (1 : Int32))) 35 0 0 (ρ_5 15 14 0 0).toNatClampNeg (0 : Int32)) 36 0 0 (ρ_5 15 14 0 0).toNatClampNeg x1_89) 28 0 0 x1_89.toNatClampNeg)) 28 0 0 x1_89.toNatClampNeg)) (fun r_9 => if x3_89 = (-1 : Int32) then f_X5_come_L197 (kh_up (kh_up (kh_up (kh_up (kh_up (kh_up ρ_5 15 14 0 0 ((ρ_5 15 14 0 0) + (1 : Int32))) 35 0 0 (ρ_5 15 14 0 0).toNatClampNeg (0 : Int32)) 36 0 0 (ρ_5 15 14 0 0).toNatClampNeg x1_89) 38 0 0 (ρ_5 15 14 0 0).toNatClampNeg ((kh_up (kh_up (kh_up ρ_5 15 14 0 0 ((ρ_5 15 14 0 0) + (1 : Int32))) 35 0 0 (ρ_5 15 14 0 0).toNatClampNeg (0 : Int32)) 36 0 0 (ρ_5 15 14 0 0).toNatClampNeg x1_89) 28 0 0 x1_89.toNatClampNeg)) 37 0 0 (ρ_5 15 14 0 0).toNatClampNeg r_9) 39 0 0 (ρ_5 15 14 0 0).toNatClampNeg ((kh_up (kh_up (kh_up (kh_up (kh_up ρ_5 15 14 0 0 ((ρ_5 15 14 0 0) + (1 : Int32))) 35 0 0 (ρ_5 15 14 0 0).toNatClampNeg (0 : Int32)) 36 0 0 (ρ_5 15 14 0 0).toNatClampNeg x1_89) 38 0 0 (ρ_5 15 14 0 0).toNatClampNeg ((kh_up (kh_up (kh_up ρ_5 15 14 0 0 ((ρ_5 15 14 0 0) + (1 : Int32))) 35 0 0 (ρ_5 15 14 0 0).toNatClampNeg (0 : Int32)) 36 0 0 (ρ_5 15 14 0 0).toNatClampNeg x1_89) 28 0 0 x1_89.toNatClampNeg)) 37 0 0 (ρ_5 15 14 0 0).toNatClampNeg r_9) 15 1 0 0)) x1_89 (ρ_5 15 14 0 0) else kh_gd (kh_in x3_89 30) (f_X5_come_L197 (kh_up (kh_up (kh_up (kh_up (kh_up (kh_up (kh_up (kh_up ρ_5 15 14 0 0 ((ρ_5 15 14 0 0) + (1 : Int32))) 35 0 0 (ρ_5 15 14 0 0).toNatClampNeg (0 : Int32)) 36 0 0 (ρ_5 15 14 0 0).toNatClampNeg x1_89) 38 0 0 (ρ_5 15 14 0 0).toNatClampNeg ((kh_up (kh_up (kh_up ρ_5 15 14 0 0 ((ρ_5 15 14 0 0) + (1 : Int32))) 35 0 0 (ρ_5 15 14 0 0).toNatClampNeg (0 : Int32)) 36 0 0 (ρ_5 15 14 0 0).toNatClampNeg x1_89) 28 0 0 x1_89.toNatClampNeg)) 37 0 0 (ρ_5 15 14 0 0).toNatClampNeg r_9) 39 0 0 (ρ_5 15 14 0 0).toNatClampNeg ((kh_up (kh_up (kh_up (kh_up (kh_up ρ_5 15 14 0 0 ((ρ_5 15 14 0 0) + (1 : Int32))) 35 0 0 (ρ_5 15 14 0 0).toNatClampNeg (0 : Int32)) 36 0 0 (ρ_5 15 14 0 0).toNatClampNeg x1_89) 38 0 0 (ρ_5 15 14 0 0).toNatClampNeg ((kh_up (kh_up (kh_up ρ_5 15 14 0 0 ((ρ_5 15 14 0 0) + (1 : Int32))) 35 0 0 (ρ_5 15 14 0 0).toNatClampNeg (0 : Int32)) 36 0 0 (ρ_5 15 14 0 0).toNatClampNeg x1_89) 28 0 0 x1_89.toNatClampNeg)) 37 0 0 (ρ_5 15 14 0 0).toNatClampNeg r_9) 15 1 0 0)) 50 0 0 x3_89.toNatClampNeg (1 : Int32)) 51 0 0 x3_89.toNatClampNeg (ρ_5 15 14 0 0)) x1_89 (ρ_5 15 14 0 0))))) else some ((0 : Int32), ρ_5))
def f_X5_come_L68 (ρ_68 : kh_S) (x1_68 : Int32) (x2_68 : Int32) (x3_68 : Int32) (t0_68 : Int32) : Option (Int32 × kh_S) := if x2_68 = 0 then f_X5_come_L89 ρ_68 x1_68 x3_68 (1 : Int32) else if t0_68 = 0 then f_X5_come_L89 ρ_68 x1_68 x3_68 (2 : Int32) else f_X5_come_L89 ρ_68 x1_68 x3_68 (0 : Int32)
def f_X5_come_L67 (ρ_67 : kh_S) (x1_67 : Int32) (x2_67 : Int32) (x3_67 : Int32) : Option (Int32 × kh_S) := f_X5_come_L68 ρ_67 x1_67 x2_67 x3_67 (0 : Int32)
def f_X5_come_L54 (ρ_54 : kh_S) (x1_54 : Int32) (x2_54 : Int32) (x3_54 : Int32) : Option (Int32 × kh_S) := if (30 : Int32) ≤ (ρ_54 15 14 0 0) then f_X5_come_L67 ρ_54 x1_54 x2_54 x3_54 else f_X5_come_L68 ρ_54 x1_54 x2_54 x3_54 (1 : Int32)
def f_X5_come_L19 (ρ_19 : kh_S) (x1_19 : Int32) (x2_19 : Int32) (t0_19 : Int32) : Option (Int32 × kh_S) := if x2_19 = 0 then f_X5_come_L67 ρ_19 x1_19 x2_19 t0_19 else kh_gd (kh_in x1_19 4) (if (ρ_19 26 0 0 x1_19.toNatClampNeg) = 0 then kh_bd (f_X5_isLeavable ρ_19 x1_19) (fun r_18 => if r_18 = 0 then f_X5_come_L67 ρ_19 x1_19 x2_19 t0_19 else if t0_19 = (-1 : Int32) then kh_bd (f_X5_isNear ρ_19 x1_19) (fun r_21 => if r_21 = 0 then f_X5_come_L54 ρ_19 x1_19 x2_19 t0_19 else f_X5_come_L67 ρ_19 x1_19 x2_19 t0_19) else f_X5_come_L54 ρ_19 x1_19 x2_19 t0_19) else f_X5_come_L67 ρ_19 x1_19 x2_19 t0_19)
def f_X5_come (ρ : kh_S) (x1 : Int32) : Option (Int32 × kh_S) := kh_bd (f_X5_isRoom ρ x1) (fun r_23 => if r_23 = 0 then f_X5_come_L19 ρ x1 r_23 (-1 : Int32) else kh_bd (f_X5_bookingFor ρ x1) (fun r_25 => f_X5_come_L19 ρ x1 r_23 r_25))
set_option maxHeartbeats 4000000 in
set_option maxRecDepth 100000 in
theorem c_X5_come (l : Launch) (D : va_G) (ca : Nat → ClassId) (A : Nat → Prop) (ad : Nat → Nat → Nat) (ρ : kh_S) (x1 : Int32) {q0 : Int32 × kh_S} (hF0 : f_X5_come ρ x1 = some q0) : Met l yX5_come wsX5_come ({ frames := 3, cells := 0, slots := 0, locals := 67 } : Room) (va_Pc [.ref (ad 15 0), .int x1] (kh_I D ca A ad ρ)) (kh_Qi D ca A ad (f_X5_come ρ x1)) 0 0 A := by
  refine Met.ofW (cc := cX5_come) (maxL := 6) (ret := (some .int)) (by decide) rfl ?_
  intro p e s m args below meth c s₁ B hml hv
  obtain ⟨rfl, hK, hw, hA⟩ := hv
  have C : kh_C p s m ([.ref (ad 15 0), .int x1]).toArray c cX5_come 6 RX5 wsX5_come D ca A := ⟨B.exec, B.bytes, hml, findClass_of_methodNamed B.named, atoms_spec (ws := wsX5_come) B.pre, hK, hA⟩
  have hr := B.returns
  have hlocks := B.notSynchronized
  have hS : va_S A s.heap s.heap [] := va_S.rf
  have hl := kh_entry ([.ref (ad 15 0), .int x1]) (n := 6) (kh_ac rfl (kh_ac rfl kh_an)) (Nat.le_of_ble_eq_true rfl)
  rw [lg_entry_eq]
  generalize (lg_sl ([.ref (ad 15 0), .int x1]) ++ List.replicate (6 - (lg_sl ([.ref (ad 15 0), .int x1])).length) Slot.unset).toArray = ls at hl ⊢
  have hl : kh_lv ls 6 [(0, .ref (ad 15 0)), (1, .int x1)] := hl
  have k_16 := C.2.2.2.2.1 (.fieldLink RX5 16 "KeylessHallModel" "state" "[I") (by decide +kernel)
  have k_25 := C.2.2.2.2.1 (.fieldLink RX5 25 "KeylessHallModel" "groupIn" "[I") (by decide +kernel)
  have k_46 := C.2.2.2.2.1 (.fieldLink RX5 46 "KeylessHallModel" "holds" "[I") (by decide +kernel)
  have k_103 := C.2.2.2.2.1 (.fieldLink RX5 103 "KeylessHallModel" "groups" "I") (by decide +kernel)
  have k_40 := C.2.2.2.2.1 (.fieldLink RX5 40 "KeylessHallModel" "how" "[I") (by decide +kernel)
  have k_43 := C.2.2.2.2.1 (.fieldLink RX5 43 "KeylessHallModel" "roomOf" "[I") (by decide +kernel)
  have k_49 := C.2.2.2.2.1 (.fieldLink RX5 49 "KeylessHallModel" "solved" "[I") (by decide +kernel)
  have k_22 := C.2.2.2.2.1 (.fieldLink RX5 22 "KeylessHallModel" "forgotten" "[I") (by decide +kernel)
  have k_7 := C.2.2.2.2.1 (.fieldLink RX5 7 "KeylessHallModel" "first" "[I") (by decide +kernel)
  have k_52 := C.2.2.2.2.1 (.fieldLink RX5 52 "KeylessHallModel" "came" "[I") (by decide +kernel)
  have k_141 := C.2.2.2.2.1 (.fieldLink RX5 141 "KeylessHallModel" "minute" "I") (by decide +kernel)
  have k_83 := C.2.2.2.2.1 (.fieldLink RX5 83 "KeylessHallModel" "bookHow" "[I") (by decide +kernel)
  have k_86 := C.2.2.2.2.1 (.fieldLink RX5 86 "KeylessHallModel" "bookGroup" "[I") (by decide +kernel)
  have hF := hF0
  unfold f_X5_come at hF
  have wL232 : ∀ (ρ_232 : kh_S) (x5_232 : Int32) (H : Heap) (locs : List Loc) (ls : Array Slot), f_X5_come_L232 ρ_232 x5_232 = some q0 → kh_w D ca A ad ρ_232 H → va_S A s.heap H locs → kh_lv ls 6 [(5, .int x5_232)] → W p l e (headSpec wsX5_come ({ frames := 3, cells := 0, slots := 0, locals := 67 } : Room)).room s m ([.ref (ad 15 0), .int x1]).toArray below meth c H locs 0 0 (MQ below (kh_Qi D ca A ad (f_X5_come ρ x1)) ([.ref (ad 15 0), .int x1]).toArray s 0 0 A) (F0 m 232 ls []) := by
    intro ρ_232 x5_232 H locs ls hF hw hS hl
    unfold f_X5_come_L232 at hF
    refine lv_iload C.1 C.2.1 dX5_come_232 (kh_at hl 0 rfl) ?_
    exact W.iret (v := x5_232) C.1 C.2.1 hr (fun t ht hW => ⟨⟨x5_232, ρ_232, rfl, hF0.trans hF.symm, kh_bk ht hw⟩, hS.F ht⟩) hS.2.2 dX5_come_234
  have wL197 : ∀ (ρ_197 : kh_S) (x1_197 : Int32) (x5_197 : Int32) (H : Heap) (locs : List Loc) (ls : Array Slot), f_X5_come_L197 ρ_197 x1_197 x5_197 = some q0 → kh_w D ca A ad ρ_197 H → va_S A s.heap H locs → kh_lv ls 6 [(0, .ref (ad 15 0)), (1, .int x1_197), (5, .int x5_197)] → W p l e (headSpec wsX5_come ({ frames := 3, cells := 0, slots := 0, locals := 67 } : Room)).room s m ([.ref (ad 15 0), .int x1]).toArray below meth c H locs 0 0 (MQ below (kh_Qi D ca A ad (f_X5_come ρ x1)) ([.ref (ad 15 0), .int x1]).toArray s 0 0 A) (F0 m 197 ls []) := by
    intro ρ_197 x1_197 x5_197 H locs ls hF hw hS hl
    unfold f_X5_come_L197 at hF
    refine lv_aload_n C.1 C.2.1 dX5_come_197 rfl (kh_at hl 0 rfl) ?_
    refine kh_get C hw 15 6 rfl (kh_z15 ρ_197) kh_kd15 (Cn := RX5) (T := TX5) (N := 33) rfl (Nat.le_of_ble_eq_true rfl) k_16 (kf_15_6 ad ρ_197 0) dX5_come_198 ?_
    refine lv_iload_n C.1 C.2.1 dX5_come_201 rfl (kh_at hl 1 rfl) ?_
    refine lv_iconst (v := (1 : Int32)) C.1 C.2.1 dX5_come_202 (by decide) ?_
    obtain ⟨g_1, hF⟩ := kh_gd_ok hF
    refine kh_iast C hw hS 26 rfl (kh_z26 ρ_197) (by decide) kh_kd26 g_1 dX5_come_203 (fun H locs hw hS => ?_)
    refine lv_aload_n C.1 C.2.1 dX5_come_204 rfl (kh_at hl 0 rfl) ?_
    refine kh_get C hw 15 9 rfl (kh_z15 (kh_up ρ_197 26 0 0 x1_197.toNatClampNeg (1 : Int32))) kh_kd15 (Cn := RX5) (T := TX5) (N := 33) rfl (Nat.le_of_ble_eq_true rfl) k_25 (kf_15_9 ad (kh_up ρ_197 26 0 0 x1_197.toNatClampNeg (1 : Int32)) 0) dX5_come_205 ?_
    refine lv_iload_n C.1 C.2.1 dX5_come_208 rfl (kh_at hl 1 rfl) ?_
    refine lv_iload C.1 C.2.1 dX5_come_209 (kh_at hl 2 rfl) ?_
    refine kh_iast C hw hS 29 rfl (kh_z29 (kh_up ρ_197 26 0 0 x1_197.toNatClampNeg (1 : Int32))) (by decide) kh_kd29 g_1 dX5_come_211 (fun H locs hw hS => ?_)
    refine lv_aload_n C.1 C.2.1 dX5_come_212 rfl (kh_at hl 0 rfl) ?_
    refine kh_get C hw 15 17 rfl (kh_z15 (kh_up (kh_up ρ_197 26 0 0 x1_197.toNatClampNeg (1 : Int32)) 29 0 0 x1_197.toNatClampNeg x5_197)) kh_kd15 (Cn := RX5) (T := TX5) (N := 33) rfl (Nat.le_of_ble_eq_true rfl) k_46 (kf_15_17 ad (kh_up (kh_up ρ_197 26 0 0 x1_197.toNatClampNeg (1 : Int32)) 29 0 0 x1_197.toNatClampNeg x5_197) 0) dX5_come_213 ?_
    refine lv_iload C.1 C.2.1 dX5_come_216 (kh_at hl 2 rfl) ?_
    obtain ⟨g_2, hF⟩ := kh_gd_ok hF
    refine kh_iald C hw 37 rfl (kh_z37 (kh_up (kh_up ρ_197 26 0 0 x1_197.toNatClampNeg (1 : Int32)) 29 0 0 x1_197.toNatClampNeg x5_197)) kh_kd37 g_2 dX5_come_218 ?_
    refine lv_iconst (v := (1 : Int32)) C.1 C.2.1 dX5_come_219 (by decide) ?_
    refine lv_iand C.1 C.2.1 dX5_come_220 ?_
    refine lv_iconst (v := (1 : Int32)) C.1 C.2.1 dX5_come_221 (by decide) ?_
    refine lv_icmp_ne (tgt := 232) C.1 C.2.1 dX5_come_222 (by decide) (fun c_3 => ?_) (fun c_3 => ?_)
    · have hF := kh_iff hF c_3
      exact wL232 (kh_up (kh_up ρ_197 26 0 0 x1_197.toNatClampNeg (1 : Int32)) 29 0 0 x1_197.toNatClampNeg x5_197) x5_197 _ _ _ hF hw hS (kh_sub hl [2] rfl)
    · have hF := kh_ift hF c_3
      refine lv_aload_n C.1 C.2.1 dX5_come_225 rfl (kh_at hl 0 rfl) ?_
      refine lv_iload C.1 C.2.1 dX5_come_226 (kh_at hl 2 rfl) ?_
      refine lv_iconst (v := (1 : Int32)) C.1 C.2.1 dX5_come_228 (by decide) ?_
      obtain ⟨ρ_4, h_4, hF⟩ := kh_bd_ok hF
      refine kh_callv (va_runV (As := [.int x5_197, .int (1 : Int32)]) (rest := []) ⟨C.1, C.2.1, C.2.2.1, C.2.2.2.1, C.2.2.2.2.1⟩ (c_X5_leaves l D ca A ad (kh_up (kh_up ρ_197 26 0 0 x1_197.toNatClampNeg (1 : Int32)) 29 0 0 x1_197.toNatClampNeg x5_197) x5_197 (1 : Int32) h_4) (cwV 2 C.2.2.2.2.1 gX5_come_X5_leaves rfl rfl rfl (by decide +kernel) ⟨Nat.le_of_ble_eq_true rfl, Nat.le_of_ble_eq_true rfl⟩) (kh_preV C hw hS 15 (kh_z15 (kh_up (kh_up ρ_197 26 0 0 x1_197.toNatClampNeg (1 : Int32)) 29 0 0 x1_197.toNatClampNeg x5_197)) kh_kd15 rfl) rfl rfl hl.1.1 rfl (lv_room (kh_sum kh_an (Nat.le_of_ble_eq_true rfl))) dX5_come_229 ⟨Nat.le_of_ble_eq_true rfl, Nat.le_of_ble_eq_true rfl⟩) hS h_4 (fun H locs hw hS => ?_)
      exact wL232 ρ_4 x5_197 _ _ _ hF hw hS (kh_sub hl [2] rfl)
  have wL89 : ∀ (ρ_89 : kh_S) (x1_89 : Int32) (x3_89 : Int32) (t1_89 : Int32) (H : Heap) (locs : List Loc) (ls : Array Slot), f_X5_come_L89 ρ_89 x1_89 x3_89 t1_89 = some q0 → kh_w D ca A ad ρ_89 H → va_S A s.heap H locs → kh_lv ls 6 [(0, .ref (ad 15 0)), (1, .int x1_89), (3, .int x3_89)] → W p l e (headSpec wsX5_come ({ frames := 3, cells := 0, slots := 0, locals := 67 } : Room)).room s m ([.ref (ad 15 0), .int x1]).toArray below meth c H locs 0 0 (MQ below (kh_Qi D ca A ad (f_X5_come ρ x1)) ([.ref (ad 15 0), .int x1]).toArray s 0 0 A) (F0 m 89 ls [.int t1_89, .ref (ad 15 0)]) := by
    intro ρ_89 x1_89 x3_89 t1_89 H locs ls hF hw hS hl
    unfold f_X5_come_L89 at hF
    obtain ⟨r_5, ρ_5, h_5, hF⟩ := kh_bd2_ok hF
    refine kh_calli (va_runV (As := [.int t1_89]) (rest := []) ⟨C.1, C.2.1, C.2.2.1, C.2.2.2.1, C.2.2.2.2.1⟩ (c_X5_refused l D ca A ad ρ_89 t1_89 h_5) (cwV 1 C.2.2.2.2.1 gX5_come_X5_refused rfl rfl rfl (by decide +kernel) ⟨Nat.le_of_ble_eq_true rfl, Nat.le_of_ble_eq_true rfl⟩) (kh_preV C hw hS 15 (kh_z15 ρ_89) kh_kd15 rfl) rfl rfl hl.1.1 rfl (lv_room (kh_sum kh_an (Nat.le_of_ble_eq_true rfl))) dX5_come_89 ⟨Nat.le_of_ble_eq_true rfl, Nat.le_of_ble_eq_true rfl⟩) hS h_5 (fun H locs hw hS => ?_)
    refine lv_if_eq (tgt := 97) C.1 C.2.1 dX5_come_92 (by decide) (fun c_6 => ?_) (fun c_6 => ?_)
    · have hF := kh_ift hF c_6
      refine lv_aload_n C.1 C.2.1 dX5_come_97 rfl (kh_at hl 0 rfl) ?_
      refine kh_get C hw 15 14 rfl (kh_z15 ρ_5) kh_kd15 (Cn := RX5) (T := TX5) (N := 33) rfl (Nat.le_of_ble_eq_true rfl) k_103 (kf_15_14 ad ρ_5 0) dX5_come_98 ?_
      refine kh_istore (lv' := [(5, .int (ρ_5 15 14 0 0)), (0, .ref (ad 15 0)), (1, .int x1_89), (3, .int x3_89)]) C.1 C.2.1 dX5_come_101 hl (by decide) rfl (fun ls hl => ?_)
      refine lv_aload_n C.1 C.2.1 dX5_come_103 rfl (kh_at hl 1 rfl) ?_
      refine lv_dup C.1 C.2.1 dX5_come_104 rfl ?_
      refine kh_get C hw 15 14 rfl (kh_z15 ρ_5) kh_kd15 (Cn := RX5) (T := TX5) (N := 33) rfl (Nat.le_of_ble_eq_true rfl) k_103 (kf_15_14 ad ρ_5 0) dX5_come_105 ?_
      refine lv_iconst (v := (1 : Int32)) C.1 C.2.1 dX5_come_108 (by decide) ?_
      refine lv_iadd C.1 C.2.1 dX5_come_109 ?_
      refine kh_putI C hw hS 15 14 rfl (kh_z15 ρ_5) kh_kd15 (by decide) (Cn := RX5) (T := TX5) (N := 33) rfl (Nat.le_of_ble_eq_true rfl) (kq_15_14) k_103 rfl (by decide +kernel) dX5_come_110 (fun H locs hw hS => ?_)
      refine lv_aload_n C.1 C.2.1 dX5_come_113 rfl (kh_at hl 1 rfl) ?_
      refine kh_get C hw 15 15 rfl (kh_z15 (kh_up ρ_5 15 14 0 0 ((ρ_5 15 14 0 0) + (1 : Int32)))) kh_kd15 (Cn := RX5) (T := TX5) (N := 33) rfl (Nat.le_of_ble_eq_true rfl) k_40 (kf_15_15 ad (kh_up ρ_5 15 14 0 0 ((ρ_5 15 14 0 0) + (1 : Int32))) 0) dX5_come_114 ?_
      refine lv_iload C.1 C.2.1 dX5_come_117 (kh_at hl 0 rfl) ?_
      refine lv_iconst (v := (0 : Int32)) C.1 C.2.1 dX5_come_119 (by decide) ?_
      obtain ⟨g_7, hF⟩ := kh_gd_ok hF
      refine kh_iast C hw hS 35 rfl (kh_z35 (kh_up ρ_5 15 14 0 0 ((ρ_5 15 14 0 0) + (1 : Int32)))) (by decide) kh_kd35 g_7 dX5_come_120 (fun H locs hw hS => ?_)
      refine lv_aload_n C.1 C.2.1 dX5_come_121 rfl (kh_at hl 1 rfl) ?_
      refine kh_get C hw 15 16 rfl (kh_z15 (kh_up (kh_up ρ_5 15 14 0 0 ((ρ_5 15 14 0 0) + (1 : Int32))) 35 0 0 (ρ_5 15 14 0 0).toNatClampNeg (0 : Int32))) kh_kd15 (Cn := RX5) (T := TX5) (N := 33) rfl (Nat.le_of_ble_eq_true rfl) k_43 (kf_15_16 ad (kh_up (kh_up ρ_5 15 14 0 0 ((ρ_5 15 14 0 0) + (1 : Int32))) 35 0 0 (ρ_5 15 14 0 0).toNatClampNeg (0 : Int32)) 0) dX5_come_122 ?_
      refine lv_iload C.1 C.2.1 dX5_come_125 (kh_at hl 0 rfl) ?_
      refine lv_iload_n C.1 C.2.1 dX5_come_127 rfl (kh_at hl 2 rfl) ?_
      refine kh_iast C hw hS 36 rfl (kh_z36 (kh_up (kh_up ρ_5 15 14 0 0 ((ρ_5 15 14 0 0) + (1 : Int32))) 35 0 0 (ρ_5 15 14 0 0).toNatClampNeg (0 : Int32))) (by decide) kh_kd36 g_7 dX5_come_128 (fun H locs hw hS => ?_)
      refine lv_aload_n C.1 C.2.1 dX5_come_129 rfl (kh_at hl 1 rfl) ?_
      refine kh_get C hw 15 18 rfl (kh_z15 (kh_up (kh_up (kh_up ρ_5 15 14 0 0 ((ρ_5 15 14 0 0) + (1 : Int32))) 35 0 0 (ρ_5 15 14 0 0).toNatClampNeg (0 : Int32)) 36 0 0 (ρ_5 15 14 0 0).toNatClampNeg x1_89)) kh_kd15 (Cn := RX5) (T := TX5) (N := 33) rfl (Nat.le_of_ble_eq_true rfl) k_49 (kf_15_18 ad (kh_up (kh_up (kh_up ρ_5 15 14 0 0 ((ρ_5 15 14 0 0) + (1 : Int32))) 35 0 0 (ρ_5 15 14 0 0).toNatClampNeg (0 : Int32)) 36 0 0 (ρ_5 15 14 0 0).toNatClampNeg x1_89) 0) dX5_come_130 ?_
      refine lv_iload C.1 C.2.1 dX5_come_133 (kh_at hl 0 rfl) ?_
      refine lv_aload_n C.1 C.2.1 dX5_come_135 rfl (kh_at hl 1 rfl) ?_
      refine kh_get C hw 15 8 rfl (kh_z15 (kh_up (kh_up (kh_up ρ_5 15 14 0 0 ((ρ_5 15 14 0 0) + (1 : Int32))) 35 0 0 (ρ_5 15 14 0 0).toNatClampNeg (0 : Int32)) 36 0 0 (ρ_5 15 14 0 0).toNatClampNeg x1_89)) kh_kd15 (Cn := RX5) (T := TX5) (N := 33) rfl (Nat.le_of_ble_eq_true rfl) k_22 (kf_15_8 ad (kh_up (kh_up (kh_up ρ_5 15 14 0 0 ((ρ_5 15 14 0 0) + (1 : Int32))) 35 0 0 (ρ_5 15 14 0 0).toNatClampNeg (0 : Int32)) 36 0 0 (ρ_5 15 14 0 0).toNatClampNeg x1_89) 0) dX5_come_136 ?_
      refine lv_iload_n C.1 C.2.1 dX5_come_139 rfl (kh_at hl 2 rfl) ?_
      obtain ⟨g_8, hF⟩ := kh_gd_ok hF
      refine kh_iald C hw 28 rfl (kh_z28 (kh_up (kh_up (kh_up ρ_5 15 14 0 0 ((ρ_5 15 14 0 0) + (1 : Int32))) 35 0 0 (ρ_5 15 14 0 0).toNatClampNeg (0 : Int32)) 36 0 0 (ρ_5 15 14 0 0).toNatClampNeg x1_89)) kh_kd28 g_8 dX5_come_140 ?_
      refine kh_iast C hw hS 38 rfl (kh_z38 (kh_up (kh_up (kh_up ρ_5 15 14 0 0 ((ρ_5 15 14 0 0) + (1 : Int32))) 35 0 0 (ρ_5 15 14 0 0).toNatClampNeg (0 : Int32)) 36 0 0 (ρ_5 15 14 0 0).toNatClampNeg x1_89)) (by decide) kh_kd38 g_7 dX5_come_141 (fun H locs hw hS => ?_)
      refine lv_aload_n C.1 C.2.1 dX5_come_142 rfl (kh_at hl 1 rfl) ?_
      refine kh_get C hw 15 17 rfl (kh_z15 (kh_up (kh_up (kh_up (kh_up ρ_5 15 14 0 0 ((ρ_5 15 14 0 0) + (1 : Int32))) 35 0 0 (ρ_5 15 14 0 0).toNatClampNeg (0 : Int32)) 36 0 0 (ρ_5 15 14 0 0).toNatClampNeg x1_89) 38 0 0 (ρ_5 15 14 0 0).toNatClampNeg ((kh_up (kh_up (kh_up ρ_5 15 14 0 0 ((ρ_5 15 14 0 0) + (1 : Int32))) 35 0 0 (ρ_5 15 14 0 0).toNatClampNeg (0 : Int32)) 36 0 0 (ρ_5 15 14 0 0).toNatClampNeg x1_89) 28 0 0 x1_89.toNatClampNeg))) kh_kd15 (Cn := RX5) (T := TX5) (N := 33) rfl (Nat.le_of_ble_eq_true rfl) k_46 (kf_15_17 ad (kh_up (kh_up (kh_up (kh_up ρ_5 15 14 0 0 ((ρ_5 15 14 0 0) + (1 : Int32))) 35 0 0 (ρ_5 15 14 0 0).toNatClampNeg (0 : Int32)) 36 0 0 (ρ_5 15 14 0 0).toNatClampNeg x1_89) 38 0 0 (ρ_5 15 14 0 0).toNatClampNeg ((kh_up (kh_up (kh_up ρ_5 15 14 0 0 ((ρ_5 15 14 0 0) + (1 : Int32))) 35 0 0 (ρ_5 15 14 0 0).toNatClampNeg (0 : Int32)) 36 0 0 (ρ_5 15 14 0 0).toNatClampNeg x1_89) 28 0 0 x1_89.toNatClampNeg)) 0) dX5_come_143 ?_
      refine lv_iload C.1 C.2.1 dX5_come_146 (kh_at hl 0 rfl) ?_
      refine lv_aload_n C.1 C.2.1 dX5_come_148 rfl (kh_at hl 1 rfl) ?_
      refine lv_iload_n C.1 C.2.1 dX5_come_149 rfl (kh_at hl 2 rfl) ?_
      refine lv_aload_n C.1 C.2.1 dX5_come_150 rfl (kh_at hl 1 rfl) ?_
      refine kh_get C hw 15 4 rfl (kh_z15 (kh_up (kh_up (kh_up (kh_up ρ_5 15 14 0 0 ((ρ_5 15 14 0 0) + (1 : Int32))) 35 0 0 (ρ_5 15 14 0 0).toNatClampNeg (0 : Int32)) 36 0 0 (ρ_5 15 14 0 0).toNatClampNeg x1_89) 38 0 0 (ρ_5 15 14 0 0).toNatClampNeg ((kh_up (kh_up (kh_up ρ_5 15 14 0 0 ((ρ_5 15 14 0 0) + (1 : Int32))) 35 0 0 (ρ_5 15 14 0 0).toNatClampNeg (0 : Int32)) 36 0 0 (ρ_5 15 14 0 0).toNatClampNeg x1_89) 28 0 0 x1_89.toNatClampNeg))) kh_kd15 (Cn := RX5) (T := TX5) (N := 33) rfl (Nat.le_of_ble_eq_true rfl) k_7 (kf_15_4 ad (kh_up (kh_up (kh_up (kh_up ρ_5 15 14 0 0 ((ρ_5 15 14 0 0) + (1 : Int32))) 35 0 0 (ρ_5 15 14 0 0).toNatClampNeg (0 : Int32)) 36 0 0 (ρ_5 15 14 0 0).toNatClampNeg x1_89) 38 0 0 (ρ_5 15 14 0 0).toNatClampNeg ((kh_up (kh_up (kh_up ρ_5 15 14 0 0 ((ρ_5 15 14 0 0) + (1 : Int32))) 35 0 0 (ρ_5 15 14 0 0).toNatClampNeg (0 : Int32)) 36 0 0 (ρ_5 15 14 0 0).toNatClampNeg x1_89) 28 0 0 x1_89.toNatClampNeg)) 0) dX5_come_151 ?_
      refine lv_iload_n C.1 C.2.1 dX5_come_154 rfl (kh_at hl 2 rfl) ?_
      refine kh_iald C hw 24 rfl (kh_z24 (kh_up (kh_up (kh_up (kh_up ρ_5 15 14 0 0 ((ρ_5 15 14 0 0) + (1 : Int32))) 35 0 0 (ρ_5 15 14 0 0).toNatClampNeg (0 : Int32)) 36 0 0 (ρ_5 15 14 0 0).toNatClampNeg x1_89) 38 0 0 (ρ_5 15 14 0 0).toNatClampNeg ((kh_up (kh_up (kh_up ρ_5 15 14 0 0 ((ρ_5 15 14 0 0) + (1 : Int32))) 35 0 0 (ρ_5 15 14 0 0).toNatClampNeg (0 : Int32)) 36 0 0 (ρ_5 15 14 0 0).toNatClampNeg x1_89) 28 0 0 x1_89.toNatClampNeg))) kh_kd24 g_8 dX5_come_155 ?_
      refine lv_aload_n C.1 C.2.1 dX5_come_156 rfl (kh_at hl 1 rfl) ?_
      refine kh_get C hw 15 8 rfl (kh_z15 (kh_up (kh_up (kh_up (kh_up ρ_5 15 14 0 0 ((ρ_5 15 14 0 0) + (1 : Int32))) 35 0 0 (ρ_5 15 14 0 0).toNatClampNeg (0 : Int32)) 36 0 0 (ρ_5 15 14 0 0).toNatClampNeg x1_89) 38 0 0 (ρ_5 15 14 0 0).toNatClampNeg ((kh_up (kh_up (kh_up ρ_5 15 14 0 0 ((ρ_5 15 14 0 0) + (1 : Int32))) 35 0 0 (ρ_5 15 14 0 0).toNatClampNeg (0 : Int32)) 36 0 0 (ρ_5 15 14 0 0).toNatClampNeg x1_89) 28 0 0 x1_89.toNatClampNeg))) kh_kd15 (Cn := RX5) (T := TX5) (N := 33) rfl (Nat.le_of_ble_eq_true rfl) k_22 (kf_15_8 ad (kh_up (kh_up (kh_up (kh_up ρ_5 15 14 0 0 ((ρ_5 15 14 0 0) + (1 : Int32))) 35 0 0 (ρ_5 15 14 0 0).toNatClampNeg (0 : Int32)) 36 0 0 (ρ_5 15 14 0 0).toNatClampNeg x1_89) 38 0 0 (ρ_5 15 14 0 0).toNatClampNeg ((kh_up (kh_up (kh_up ρ_5 15 14 0 0 ((ρ_5 15 14 0 0) + (1 : Int32))) 35 0 0 (ρ_5 15 14 0 0).toNatClampNeg (0 : Int32)) 36 0 0 (ρ_5 15 14 0 0).toNatClampNeg x1_89) 28 0 0 x1_89.toNatClampNeg)) 0) dX5_come_157 ?_
      refine lv_iload_n C.1 C.2.1 dX5_come_160 rfl (kh_at hl 2 rfl) ?_
      refine kh_iald C hw 28 rfl (kh_z28 (kh_up (kh_up (kh_up (kh_up ρ_5 15 14 0 0 ((ρ_5 15 14 0 0) + (1 : Int32))) 35 0 0 (ρ_5 15 14 0 0).toNatClampNeg (0 : Int32)) 36 0 0 (ρ_5 15 14 0 0).toNatClampNeg x1_89) 38 0 0 (ρ_5 15 14 0 0).toNatClampNeg ((kh_up (kh_up (kh_up ρ_5 15 14 0 0 ((ρ_5 15 14 0 0) + (1 : Int32))) 35 0 0 (ρ_5 15 14 0 0).toNatClampNeg (0 : Int32)) 36 0 0 (ρ_5 15 14 0 0).toNatClampNeg x1_89) 28 0 0 x1_89.toNatClampNeg))) kh_kd28 g_8 dX5_come_161 ?_
      obtain ⟨r_9, h_9, hF⟩ := kh_bd_ok hF
      refine kh_calli (va_runV (As := [.int x1_89, .int ((kh_up (kh_up (kh_up (kh_up ρ_5 15 14 0 0 ((ρ_5 15 14 0 0) + (1 : Int32))) 35 0 0 (ρ_5 15 14 0 0).toNatClampNeg (0 : Int32)) 36 0 0 (ρ_5 15 14 0 0).toNatClampNeg x1_89) 38 0 0 (ρ_5 15 14 0 0).toNatClampNeg ((kh_up (kh_up (kh_up ρ_5 15 14 0 0 ((ρ_5 15 14 0 0) + (1 : Int32))) 35 0 0 (ρ_5 15 14 0 0).toNatClampNeg (0 : Int32)) 36 0 0 (ρ_5 15 14 0 0).toNatClampNeg x1_89) 28 0 0 x1_89.toNatClampNeg)) 24 0 0 x1_89.toNatClampNeg), .int ((kh_up (kh_up (kh_up (kh_up ρ_5 15 14 0 0 ((ρ_5 15 14 0 0) + (1 : Int32))) 35 0 0 (ρ_5 15 14 0 0).toNatClampNeg (0 : Int32)) 36 0 0 (ρ_5 15 14 0 0).toNatClampNeg x1_89) 38 0 0 (ρ_5 15 14 0 0).toNatClampNeg ((kh_up (kh_up (kh_up ρ_5 15 14 0 0 ((ρ_5 15 14 0 0) + (1 : Int32))) 35 0 0 (ρ_5 15 14 0 0).toNatClampNeg (0 : Int32)) 36 0 0 (ρ_5 15 14 0 0).toNatClampNeg x1_89) 28 0 0 x1_89.toNatClampNeg)) 28 0 0 x1_89.toNatClampNeg)]) (rest := [.int (ρ_5 15 14 0 0), .ref (ad 37 0)]) ⟨C.1, C.2.1, C.2.2.1, C.2.2.2.1, C.2.2.2.2.1⟩ (c_X5_heldBy l D ca A ad (kh_up (kh_up (kh_up (kh_up ρ_5 15 14 0 0 ((ρ_5 15 14 0 0) + (1 : Int32))) 35 0 0 (ρ_5 15 14 0 0).toNatClampNeg (0 : Int32)) 36 0 0 (ρ_5 15 14 0 0).toNatClampNeg x1_89) 38 0 0 (ρ_5 15 14 0 0).toNatClampNeg ((kh_up (kh_up (kh_up ρ_5 15 14 0 0 ((ρ_5 15 14 0 0) + (1 : Int32))) 35 0 0 (ρ_5 15 14 0 0).toNatClampNeg (0 : Int32)) 36 0 0 (ρ_5 15 14 0 0).toNatClampNeg x1_89) 28 0 0 x1_89.toNatClampNeg)) x1_89 ((kh_up (kh_up (kh_up (kh_up ρ_5 15 14 0 0 ((ρ_5 15 14 0 0) + (1 : Int32))) 35 0 0 (ρ_5 15 14 0 0).toNatClampNeg (0 : Int32)) 36 0 0 (ρ_5 15 14 0 0).toNatClampNeg x1_89) 38 0 0 (ρ_5 15 14 0 0).toNatClampNeg ((kh_up (kh_up (kh_up ρ_5 15 14 0 0 ((ρ_5 15 14 0 0) + (1 : Int32))) 35 0 0 (ρ_5 15 14 0 0).toNatClampNeg (0 : Int32)) 36 0 0 (ρ_5 15 14 0 0).toNatClampNeg x1_89) 28 0 0 x1_89.toNatClampNeg)) 24 0 0 x1_89.toNatClampNeg) ((kh_up (kh_up (kh_up (kh_up ρ_5 15 14 0 0 ((ρ_5 15 14 0 0) + (1 : Int32))) 35 0 0 (ρ_5 15 14 0 0).toNatClampNeg (0 : Int32)) 36 0 0 (ρ_5 15 14 0 0).toNatClampNeg x1_89) 38 0 0 (ρ_5 15 14 0 0).toNatClampNeg ((kh_up (kh_up (kh_up ρ_5 15 14 0 0 ((ρ_5 15 14 0 0) + (1 : Int32))) 35 0 0 (ρ_5 15 14 0 0).toNatClampNeg (0 : Int32)) 36 0 0 (ρ_5 15 14 0 0).toNatClampNeg x1_89) 28 0 0 x1_89.toNatClampNeg)) 28 0 0 x1_89.toNatClampNeg) h_9) (cwV 3 C.2.2.2.2.1 gX5_come_X5_heldBy rfl rfl rfl (by decide +kernel) ⟨Nat.le_of_ble_eq_true rfl, Nat.le_of_ble_eq_true rfl⟩) (kh_preV C hw hS 15 (kh_z15 (kh_up (kh_up (kh_up (kh_up ρ_5 15 14 0 0 ((ρ_5 15 14 0 0) + (1 : Int32))) 35 0 0 (ρ_5 15 14 0 0).toNatClampNeg (0 : Int32)) 36 0 0 (ρ_5 15 14 0 0).toNatClampNeg x1_89) 38 0 0 (ρ_5 15 14 0 0).toNatClampNeg ((kh_up (kh_up (kh_up ρ_5 15 14 0 0 ((ρ_5 15 14 0 0) + (1 : Int32))) 35 0 0 (ρ_5 15 14 0 0).toNatClampNeg (0 : Int32)) 36 0 0 (ρ_5 15 14 0 0).toNatClampNeg x1_89) 28 0 0 x1_89.toNatClampNeg))) kh_kd15 rfl) rfl rfl hl.1.1 rfl (lv_room (kh_sum (kh_ac rfl (kh_ac rfl kh_an)) (Nat.le_of_ble_eq_true rfl))) dX5_come_162 ⟨Nat.le_of_ble_eq_true rfl, Nat.le_of_ble_eq_true rfl⟩) hS (kh_mp h_9) (fun H locs hw hS => ?_)
      refine kh_iast C hw hS 37 rfl (kh_z37 (kh_up (kh_up (kh_up (kh_up ρ_5 15 14 0 0 ((ρ_5 15 14 0 0) + (1 : Int32))) 35 0 0 (ρ_5 15 14 0 0).toNatClampNeg (0 : Int32)) 36 0 0 (ρ_5 15 14 0 0).toNatClampNeg x1_89) 38 0 0 (ρ_5 15 14 0 0).toNatClampNeg ((kh_up (kh_up (kh_up ρ_5 15 14 0 0 ((ρ_5 15 14 0 0) + (1 : Int32))) 35 0 0 (ρ_5 15 14 0 0).toNatClampNeg (0 : Int32)) 36 0 0 (ρ_5 15 14 0 0).toNatClampNeg x1_89) 28 0 0 x1_89.toNatClampNeg))) (by decide) kh_kd37 g_7 dX5_come_165 (fun H locs hw hS => ?_)
      refine lv_aload_n C.1 C.2.1 dX5_come_166 rfl (kh_at hl 1 rfl) ?_
      refine kh_get C hw 15 19 rfl (kh_z15 (kh_up (kh_up (kh_up (kh_up (kh_up ρ_5 15 14 0 0 ((ρ_5 15 14 0 0) + (1 : Int32))) 35 0 0 (ρ_5 15 14 0 0).toNatClampNeg (0 : Int32)) 36 0 0 (ρ_5 15 14 0 0).toNatClampNeg x1_89) 38 0 0 (ρ_5 15 14 0 0).toNatClampNeg ((kh_up (kh_up (kh_up ρ_5 15 14 0 0 ((ρ_5 15 14 0 0) + (1 : Int32))) 35 0 0 (ρ_5 15 14 0 0).toNatClampNeg (0 : Int32)) 36 0 0 (ρ_5 15 14 0 0).toNatClampNeg x1_89) 28 0 0 x1_89.toNatClampNeg)) 37 0 0 (ρ_5 15 14 0 0).toNatClampNeg r_9)) kh_kd15 (Cn := RX5) (T := TX5) (N := 33) rfl (Nat.le_of_ble_eq_true rfl) k_52 (kf_15_19 ad (kh_up (kh_up (kh_up (kh_up (kh_up ρ_5 15 14 0 0 ((ρ_5 15 14 0 0) + (1 : Int32))) 35 0 0 (ρ_5 15 14 0 0).toNatClampNeg (0 : Int32)) 36 0 0 (ρ_5 15 14 0 0).toNatClampNeg x1_89) 38 0 0 (ρ_5 15 14 0 0).toNatClampNeg ((kh_up (kh_up (kh_up ρ_5 15 14 0 0 ((ρ_5 15 14 0 0) + (1 : Int32))) 35 0 0 (ρ_5 15 14 0 0).toNatClampNeg (0 : Int32)) 36 0 0 (ρ_5 15 14 0 0).toNatClampNeg x1_89) 28 0 0 x1_89.toNatClampNeg)) 37 0 0 (ρ_5 15 14 0 0).toNatClampNeg r_9) 0) dX5_come_167 ?_
      refine lv_iload C.1 C.2.1 dX5_come_170 (kh_at hl 0 rfl) ?_
      refine lv_aload_n C.1 C.2.1 dX5_come_172 rfl (kh_at hl 1 rfl) ?_
      refine kh_get C hw 15 1 rfl (kh_z15 (kh_up (kh_up (kh_up (kh_up (kh_up ρ_5 15 14 0 0 ((ρ_5 15 14 0 0) + (1 : Int32))) 35 0 0 (ρ_5 15 14 0 0).toNatClampNeg (0 : Int32)) 36 0 0 (ρ_5 15 14 0 0).toNatClampNeg x1_89) 38 0 0 (ρ_5 15 14 0 0).toNatClampNeg ((kh_up (kh_up (kh_up ρ_5 15 14 0 0 ((ρ_5 15 14 0 0) + (1 : Int32))) 35 0 0 (ρ_5 15 14 0 0).toNatClampNeg (0 : Int32)) 36 0 0 (ρ_5 15 14 0 0).toNatClampNeg x1_89) 28 0 0 x1_89.toNatClampNeg)) 37 0 0 (ρ_5 15 14 0 0).toNatClampNeg r_9)) kh_kd15 (Cn := RX5) (T := TX5) (N := 33) rfl (Nat.le_of_ble_eq_true rfl) k_141 (kf_15_1 ad (kh_up (kh_up (kh_up (kh_up (kh_up ρ_5 15 14 0 0 ((ρ_5 15 14 0 0) + (1 : Int32))) 35 0 0 (ρ_5 15 14 0 0).toNatClampNeg (0 : Int32)) 36 0 0 (ρ_5 15 14 0 0).toNatClampNeg x1_89) 38 0 0 (ρ_5 15 14 0 0).toNatClampNeg ((kh_up (kh_up (kh_up ρ_5 15 14 0 0 ((ρ_5 15 14 0 0) + (1 : Int32))) 35 0 0 (ρ_5 15 14 0 0).toNatClampNeg (0 : Int32)) 36 0 0 (ρ_5 15 14 0 0).toNatClampNeg x1_89) 28 0 0 x1_89.toNatClampNeg)) 37 0 0 (ρ_5 15 14 0 0).toNatClampNeg r_9) 0) dX5_come_173 ?_
      refine kh_iast C hw hS 39 rfl (kh_z39 (kh_up (kh_up (kh_up (kh_up (kh_up ρ_5 15 14 0 0 ((ρ_5 15 14 0 0) + (1 : Int32))) 35 0 0 (ρ_5 15 14 0 0).toNatClampNeg (0 : Int32)) 36 0 0 (ρ_5 15 14 0 0).toNatClampNeg x1_89) 38 0 0 (ρ_5 15 14 0 0).toNatClampNeg ((kh_up (kh_up (kh_up ρ_5 15 14 0 0 ((ρ_5 15 14 0 0) + (1 : Int32))) 35 0 0 (ρ_5 15 14 0 0).toNatClampNeg (0 : Int32)) 36 0 0 (ρ_5 15 14 0 0).toNatClampNeg x1_89) 28 0 0 x1_89.toNatClampNeg)) 37 0 0 (ρ_5 15 14 0 0).toNatClampNeg r_9)) (by decide) kh_kd39 g_7 dX5_come_176 (fun H locs hw hS => ?_)
      refine lv_iload_n C.1 C.2.1 dX5_come_177 rfl (kh_at hl 3 rfl) ?_
      refine lv_iconst (v := (-1 : Int32)) C.1 C.2.1 dX5_come_178 (by decide) ?_
      refine lv_icmp_eq (tgt := 197) C.1 C.2.1 dX5_come_179 (by decide) (fun c_10 => ?_) (fun c_10 => ?_)
      · have hF := kh_ift hF c_10
        exact wL197 (kh_up (kh_up (kh_up (kh_up (kh_up (kh_up ρ_5 15 14 0 0 ((ρ_5 15 14 0 0) + (1 : Int32))) 35 0 0 (ρ_5 15 14 0 0).toNatClampNeg (0 : Int32)) 36 0 0 (ρ_5 15 14 0 0).toNatClampNeg x1_89) 38 0 0 (ρ_5 15 14 0 0).toNatClampNeg ((kh_up (kh_up (kh_up ρ_5 15 14 0 0 ((ρ_5 15 14 0 0) + (1 : Int32))) 35 0 0 (ρ_5 15 14 0 0).toNatClampNeg (0 : Int32)) 36 0 0 (ρ_5 15 14 0 0).toNatClampNeg x1_89) 28 0 0 x1_89.toNatClampNeg)) 37 0 0 (ρ_5 15 14 0 0).toNatClampNeg r_9) 39 0 0 (ρ_5 15 14 0 0).toNatClampNeg ((kh_up (kh_up (kh_up (kh_up (kh_up ρ_5 15 14 0 0 ((ρ_5 15 14 0 0) + (1 : Int32))) 35 0 0 (ρ_5 15 14 0 0).toNatClampNeg (0 : Int32)) 36 0 0 (ρ_5 15 14 0 0).toNatClampNeg x1_89) 38 0 0 (ρ_5 15 14 0 0).toNatClampNeg ((kh_up (kh_up (kh_up ρ_5 15 14 0 0 ((ρ_5 15 14 0 0) + (1 : Int32))) 35 0 0 (ρ_5 15 14 0 0).toNatClampNeg (0 : Int32)) 36 0 0 (ρ_5 15 14 0 0).toNatClampNeg x1_89) 28 0 0 x1_89.toNatClampNeg)) 37 0 0 (ρ_5 15 14 0 0).toNatClampNeg r_9) 15 1 0 0)) x1_89 (ρ_5 15 14 0 0) _ _ _ hF hw hS (kh_sub hl [1, 2, 0] rfl)
      · have hF := kh_iff hF c_10
        refine lv_aload_n C.1 C.2.1 dX5_come_182 rfl (kh_at hl 1 rfl) ?_
        refine kh_get C hw 15 30 rfl (kh_z15 (kh_up (kh_up (kh_up (kh_up (kh_up (kh_up ρ_5 15 14 0 0 ((ρ_5 15 14 0 0) + (1 : Int32))) 35 0 0 (ρ_5 15 14 0 0).toNatClampNeg (0 : Int32)) 36 0 0 (ρ_5 15 14 0 0).toNatClampNeg x1_89) 38 0 0 (ρ_5 15 14 0 0).toNatClampNeg ((kh_up (kh_up (kh_up ρ_5 15 14 0 0 ((ρ_5 15 14 0 0) + (1 : Int32))) 35 0 0 (ρ_5 15 14 0 0).toNatClampNeg (0 : Int32)) 36 0 0 (ρ_5 15 14 0 0).toNatClampNeg x1_89) 28 0 0 x1_89.toNatClampNeg)) 37 0 0 (ρ_5 15 14 0 0).toNatClampNeg r_9) 39 0 0 (ρ_5 15 14 0 0).toNatClampNeg ((kh_up (kh_up (kh_up (kh_up (kh_up ρ_5 15 14 0 0 ((ρ_5 15 14 0 0) + (1 : Int32))) 35 0 0 (ρ_5 15 14 0 0).toNatClampNeg (0 : Int32)) 36 0 0 (ρ_5 15 14 0 0).toNatClampNeg x1_89) 38 0 0 (ρ_5 15 14 0 0).toNatClampNeg ((kh_up (kh_up (kh_up ρ_5 15 14 0 0 ((ρ_5 15 14 0 0) + (1 : Int32))) 35 0 0 (ρ_5 15 14 0 0).toNatClampNeg (0 : Int32)) 36 0 0 (ρ_5 15 14 0 0).toNatClampNeg x1_89) 28 0 0 x1_89.toNatClampNeg)) 37 0 0 (ρ_5 15 14 0 0).toNatClampNeg r_9) 15 1 0 0))) kh_kd15 (Cn := RX5) (T := TX5) (N := 33) rfl (Nat.le_of_ble_eq_true rfl) k_83 (kf_15_30 ad (kh_up (kh_up (kh_up (kh_up (kh_up (kh_up ρ_5 15 14 0 0 ((ρ_5 15 14 0 0) + (1 : Int32))) 35 0 0 (ρ_5 15 14 0 0).toNatClampNeg (0 : Int32)) 36 0 0 (ρ_5 15 14 0 0).toNatClampNeg x1_89) 38 0 0 (ρ_5 15 14 0 0).toNatClampNeg ((kh_up (kh_up (kh_up ρ_5 15 14 0 0 ((ρ_5 15 14 0 0) + (1 : Int32))) 35 0 0 (ρ_5 15 14 0 0).toNatClampNeg (0 : Int32)) 36 0 0 (ρ_5 15 14 0 0).toNatClampNeg x1_89) 28 0 0 x1_89.toNatClampNeg)) 37 0 0 (ρ_5 15 14 0 0).toNatClampNeg r_9) 39 0 0 (ρ_5 15 14 0 0).toNatClampNeg ((kh_up (kh_up (kh_up (kh_up (kh_up ρ_5 15 14 0 0 ((ρ_5 15 14 0 0) + (1 : Int32))) 35 0 0 (ρ_5 15 14 0 0).toNatClampNeg (0 : Int32)) 36 0 0 (ρ_5 15 14 0 0).toNatClampNeg x1_89) 38 0 0 (ρ_5 15 14 0 0).toNatClampNeg ((kh_up (kh_up (kh_up ρ_5 15 14 0 0 ((ρ_5 15 14 0 0) + (1 : Int32))) 35 0 0 (ρ_5 15 14 0 0).toNatClampNeg (0 : Int32)) 36 0 0 (ρ_5 15 14 0 0).toNatClampNeg x1_89) 28 0 0 x1_89.toNatClampNeg)) 37 0 0 (ρ_5 15 14 0 0).toNatClampNeg r_9) 15 1 0 0)) 0) dX5_come_183 ?_
        refine lv_iload_n C.1 C.2.1 dX5_come_186 rfl (kh_at hl 3 rfl) ?_
        refine lv_iconst (v := (1 : Int32)) C.1 C.2.1 dX5_come_187 (by decide) ?_
        obtain ⟨g_11, hF⟩ := kh_gd_ok hF
        refine kh_iast C hw hS 50 rfl (kh_z50 (kh_up (kh_up (kh_up (kh_up (kh_up (kh_up ρ_5 15 14 0 0 ((ρ_5 15 14 0 0) + (1 : Int32))) 35 0 0 (ρ_5 15 14 0 0).toNatClampNeg (0 : Int32)) 36 0 0 (ρ_5 15 14 0 0).toNatClampNeg x1_89) 38 0 0 (ρ_5 15 14 0 0).toNatClampNeg ((kh_up (kh_up (kh_up ρ_5 15 14 0 0 ((ρ_5 15 14 0 0) + (1 : Int32))) 35 0 0 (ρ_5 15 14 0 0).toNatClampNeg (0 : Int32)) 36 0 0 (ρ_5 15 14 0 0).toNatClampNeg x1_89) 28 0 0 x1_89.toNatClampNeg)) 37 0 0 (ρ_5 15 14 0 0).toNatClampNeg r_9) 39 0 0 (ρ_5 15 14 0 0).toNatClampNeg ((kh_up (kh_up (kh_up (kh_up (kh_up ρ_5 15 14 0 0 ((ρ_5 15 14 0 0) + (1 : Int32))) 35 0 0 (ρ_5 15 14 0 0).toNatClampNeg (0 : Int32)) 36 0 0 (ρ_5 15 14 0 0).toNatClampNeg x1_89) 38 0 0 (ρ_5 15 14 0 0).toNatClampNeg ((kh_up (kh_up (kh_up ρ_5 15 14 0 0 ((ρ_5 15 14 0 0) + (1 : Int32))) 35 0 0 (ρ_5 15 14 0 0).toNatClampNeg (0 : Int32)) 36 0 0 (ρ_5 15 14 0 0).toNatClampNeg x1_89) 28 0 0 x1_89.toNatClampNeg)) 37 0 0 (ρ_5 15 14 0 0).toNatClampNeg r_9) 15 1 0 0))) (by decide) kh_kd50 g_11 dX5_come_188 (fun H locs hw hS => ?_)
        refine lv_aload_n C.1 C.2.1 dX5_come_189 rfl (kh_at hl 1 rfl) ?_
        refine kh_get C hw 15 31 rfl (kh_z15 (kh_up (kh_up (kh_up (kh_up (kh_up (kh_up (kh_up ρ_5 15 14 0 0 ((ρ_5 15 14 0 0) + (1 : Int32))) 35 0 0 (ρ_5 15 14 0 0).toNatClampNeg (0 : Int32)) 36 0 0 (ρ_5 15 14 0 0).toNatClampNeg x1_89) 38 0 0 (ρ_5 15 14 0 0).toNatClampNeg ((kh_up (kh_up (kh_up ρ_5 15 14 0 0 ((ρ_5 15 14 0 0) + (1 : Int32))) 35 0 0 (ρ_5 15 14 0 0).toNatClampNeg (0 : Int32)) 36 0 0 (ρ_5 15 14 0 0).toNatClampNeg x1_89) 28 0 0 x1_89.toNatClampNeg)) 37 0 0 (ρ_5 15 14 0 0).toNatClampNeg r_9) 39 0 0 (ρ_5 15 14 0 0).toNatClampNeg ((kh_up (kh_up (kh_up (kh_up (kh_up ρ_5 15 14 0 0 ((ρ_5 15 14 0 0) + (1 : Int32))) 35 0 0 (ρ_5 15 14 0 0).toNatClampNeg (0 : Int32)) 36 0 0 (ρ_5 15 14 0 0).toNatClampNeg x1_89) 38 0 0 (ρ_5 15 14 0 0).toNatClampNeg ((kh_up (kh_up (kh_up ρ_5 15 14 0 0 ((ρ_5 15 14 0 0) + (1 : Int32))) 35 0 0 (ρ_5 15 14 0 0).toNatClampNeg (0 : Int32)) 36 0 0 (ρ_5 15 14 0 0).toNatClampNeg x1_89) 28 0 0 x1_89.toNatClampNeg)) 37 0 0 (ρ_5 15 14 0 0).toNatClampNeg r_9) 15 1 0 0)) 50 0 0 x3_89.toNatClampNeg (1 : Int32))) kh_kd15 (Cn := RX5) (T := TX5) (N := 33) rfl (Nat.le_of_ble_eq_true rfl) k_86 (kf_15_31 ad (kh_up (kh_up (kh_up (kh_up (kh_up (kh_up (kh_up ρ_5 15 14 0 0 ((ρ_5 15 14 0 0) + (1 : Int32))) 35 0 0 (ρ_5 15 14 0 0).toNatClampNeg (0 : Int32)) 36 0 0 (ρ_5 15 14 0 0).toNatClampNeg x1_89) 38 0 0 (ρ_5 15 14 0 0).toNatClampNeg ((kh_up (kh_up (kh_up ρ_5 15 14 0 0 ((ρ_5 15 14 0 0) + (1 : Int32))) 35 0 0 (ρ_5 15 14 0 0).toNatClampNeg (0 : Int32)) 36 0 0 (ρ_5 15 14 0 0).toNatClampNeg x1_89) 28 0 0 x1_89.toNatClampNeg)) 37 0 0 (ρ_5 15 14 0 0).toNatClampNeg r_9) 39 0 0 (ρ_5 15 14 0 0).toNatClampNeg ((kh_up (kh_up (kh_up (kh_up (kh_up ρ_5 15 14 0 0 ((ρ_5 15 14 0 0) + (1 : Int32))) 35 0 0 (ρ_5 15 14 0 0).toNatClampNeg (0 : Int32)) 36 0 0 (ρ_5 15 14 0 0).toNatClampNeg x1_89) 38 0 0 (ρ_5 15 14 0 0).toNatClampNeg ((kh_up (kh_up (kh_up ρ_5 15 14 0 0 ((ρ_5 15 14 0 0) + (1 : Int32))) 35 0 0 (ρ_5 15 14 0 0).toNatClampNeg (0 : Int32)) 36 0 0 (ρ_5 15 14 0 0).toNatClampNeg x1_89) 28 0 0 x1_89.toNatClampNeg)) 37 0 0 (ρ_5 15 14 0 0).toNatClampNeg r_9) 15 1 0 0)) 50 0 0 x3_89.toNatClampNeg (1 : Int32)) 0) dX5_come_190 ?_
        refine lv_iload_n C.1 C.2.1 dX5_come_193 rfl (kh_at hl 3 rfl) ?_
        refine lv_iload C.1 C.2.1 dX5_come_194 (kh_at hl 0 rfl) ?_
        refine kh_iast C hw hS 51 rfl (kh_z51 (kh_up (kh_up (kh_up (kh_up (kh_up (kh_up (kh_up ρ_5 15 14 0 0 ((ρ_5 15 14 0 0) + (1 : Int32))) 35 0 0 (ρ_5 15 14 0 0).toNatClampNeg (0 : Int32)) 36 0 0 (ρ_5 15 14 0 0).toNatClampNeg x1_89) 38 0 0 (ρ_5 15 14 0 0).toNatClampNeg ((kh_up (kh_up (kh_up ρ_5 15 14 0 0 ((ρ_5 15 14 0 0) + (1 : Int32))) 35 0 0 (ρ_5 15 14 0 0).toNatClampNeg (0 : Int32)) 36 0 0 (ρ_5 15 14 0 0).toNatClampNeg x1_89) 28 0 0 x1_89.toNatClampNeg)) 37 0 0 (ρ_5 15 14 0 0).toNatClampNeg r_9) 39 0 0 (ρ_5 15 14 0 0).toNatClampNeg ((kh_up (kh_up (kh_up (kh_up (kh_up ρ_5 15 14 0 0 ((ρ_5 15 14 0 0) + (1 : Int32))) 35 0 0 (ρ_5 15 14 0 0).toNatClampNeg (0 : Int32)) 36 0 0 (ρ_5 15 14 0 0).toNatClampNeg x1_89) 38 0 0 (ρ_5 15 14 0 0).toNatClampNeg ((kh_up (kh_up (kh_up ρ_5 15 14 0 0 ((ρ_5 15 14 0 0) + (1 : Int32))) 35 0 0 (ρ_5 15 14 0 0).toNatClampNeg (0 : Int32)) 36 0 0 (ρ_5 15 14 0 0).toNatClampNeg x1_89) 28 0 0 x1_89.toNatClampNeg)) 37 0 0 (ρ_5 15 14 0 0).toNatClampNeg r_9) 15 1 0 0)) 50 0 0 x3_89.toNatClampNeg (1 : Int32))) (by decide) kh_kd51 g_11 dX5_come_196 (fun H locs hw hS => ?_)
        exact wL197 (kh_up (kh_up (kh_up (kh_up (kh_up (kh_up (kh_up (kh_up ρ_5 15 14 0 0 ((ρ_5 15 14 0 0) + (1 : Int32))) 35 0 0 (ρ_5 15 14 0 0).toNatClampNeg (0 : Int32)) 36 0 0 (ρ_5 15 14 0 0).toNatClampNeg x1_89) 38 0 0 (ρ_5 15 14 0 0).toNatClampNeg ((kh_up (kh_up (kh_up ρ_5 15 14 0 0 ((ρ_5 15 14 0 0) + (1 : Int32))) 35 0 0 (ρ_5 15 14 0 0).toNatClampNeg (0 : Int32)) 36 0 0 (ρ_5 15 14 0 0).toNatClampNeg x1_89) 28 0 0 x1_89.toNatClampNeg)) 37 0 0 (ρ_5 15 14 0 0).toNatClampNeg r_9) 39 0 0 (ρ_5 15 14 0 0).toNatClampNeg ((kh_up (kh_up (kh_up (kh_up (kh_up ρ_5 15 14 0 0 ((ρ_5 15 14 0 0) + (1 : Int32))) 35 0 0 (ρ_5 15 14 0 0).toNatClampNeg (0 : Int32)) 36 0 0 (ρ_5 15 14 0 0).toNatClampNeg x1_89) 38 0 0 (ρ_5 15 14 0 0).toNatClampNeg ((kh_up (kh_up (kh_up ρ_5 15 14 0 0 ((ρ_5 15 14 0 0) + (1 : Int32))) 35 0 0 (ρ_5 15 14 0 0).toNatClampNeg (0 : Int32)) 36 0 0 (ρ_5 15 14 0 0).toNatClampNeg x1_89) 28 0 0 x1_89.toNatClampNeg)) 37 0 0 (ρ_5 15 14 0 0).toNatClampNeg r_9) 15 1 0 0)) 50 0 0 x3_89.toNatClampNeg (1 : Int32)) 51 0 0 x3_89.toNatClampNeg (ρ_5 15 14 0 0)) x1_89 (ρ_5 15 14 0 0) _ _ _ hF hw hS (kh_sub hl [1, 2, 0] rfl)
    · have hF := kh_iff hF c_6
      refine lv_iconst (v := (0 : Int32)) C.1 C.2.1 dX5_come_95 (by decide) ?_
      exact W.iret (v := (0 : Int32)) C.1 C.2.1 hr (fun t ht hW => ⟨⟨(0 : Int32), ρ_5, rfl, hF0.trans hF.symm, kh_bk ht hw⟩, hS.F ht⟩) hS.2.2 dX5_come_96
  have wL68 : ∀ (ρ_68 : kh_S) (x1_68 : Int32) (x2_68 : Int32) (x3_68 : Int32) (t0_68 : Int32) (H : Heap) (locs : List Loc) (ls : Array Slot), f_X5_come_L68 ρ_68 x1_68 x2_68 x3_68 t0_68 = some q0 → kh_w D ca A ad ρ_68 H → va_S A s.heap H locs → kh_lv ls 6 [(0, .ref (ad 15 0)), (1, .int x1_68), (2, .int x2_68), (3, .int x3_68)] → W p l e (headSpec wsX5_come ({ frames := 3, cells := 0, slots := 0, locals := 67 } : Room)).room s m ([.ref (ad 15 0), .int x1]).toArray below meth c H locs 0 0 (MQ below (kh_Qi D ca A ad (f_X5_come ρ x1)) ([.ref (ad 15 0), .int x1]).toArray s 0 0 A) (F0 m 68 ls [.int t0_68]) := by
    intro ρ_68 x1_68 x2_68 x3_68 t0_68 H locs ls hF hw hS hl
    unfold f_X5_come_L68 at hF
    refine kh_istore (lv' := [(4, .int t0_68), (0, .ref (ad 15 0)), (1, .int x1_68), (2, .int x2_68), (3, .int x3_68)]) C.1 C.2.1 dX5_come_68 hl (by decide) rfl (fun ls hl => ?_)
    refine lv_aload_n C.1 C.2.1 dX5_come_70 rfl (kh_at hl 1 rfl) ?_
    refine lv_iload_n C.1 C.2.1 dX5_come_71 rfl (kh_at hl 3 rfl) ?_
    refine lv_if_ne (tgt := 79) C.1 C.2.1 dX5_come_72 (by decide) (fun c_12 => ?_) (fun c_12 => ?_)
    · have hF := kh_iff hF c_12
      refine lv_iload C.1 C.2.1 dX5_come_79 (kh_at hl 0 rfl) ?_
      refine lv_if_eq (tgt := 88) C.1 C.2.1 dX5_come_81 (by decide) (fun c_13 => ?_) (fun c_13 => ?_)
      · have hF := kh_ift hF c_13
        refine lv_iconst (v := (2 : Int32)) C.1 C.2.1 dX5_come_88 (by decide) ?_
        exact wL89 ρ_68 x1_68 x3_68 (2 : Int32) _ _ _ hF hw hS (kh_sub hl [1, 2, 4] rfl)
      · have hF := kh_iff hF c_13
        refine lv_iconst (v := (0 : Int32)) C.1 C.2.1 dX5_come_84 (by decide) ?_
        refine lv_goto (tgt := 89) C.1 C.2.1 dX5_come_85 (by decide) ?_
        exact wL89 ρ_68 x1_68 x3_68 (0 : Int32) _ _ _ hF hw hS (kh_sub hl [1, 2, 4] rfl)
    · have hF := kh_ift hF c_12
      refine lv_iconst (v := (1 : Int32)) C.1 C.2.1 dX5_come_75 (by decide) ?_
      refine lv_goto (tgt := 89) C.1 C.2.1 dX5_come_76 (by decide) ?_
      exact wL89 ρ_68 x1_68 x3_68 (1 : Int32) _ _ _ hF hw hS (kh_sub hl [1, 2, 4] rfl)
  have wL67 : ∀ (ρ_67 : kh_S) (x1_67 : Int32) (x2_67 : Int32) (x3_67 : Int32) (H : Heap) (locs : List Loc) (ls : Array Slot), f_X5_come_L67 ρ_67 x1_67 x2_67 x3_67 = some q0 → kh_w D ca A ad ρ_67 H → va_S A s.heap H locs → kh_lv ls 6 [(0, .ref (ad 15 0)), (1, .int x1_67), (2, .int x2_67), (3, .int x3_67)] → W p l e (headSpec wsX5_come ({ frames := 3, cells := 0, slots := 0, locals := 67 } : Room)).room s m ([.ref (ad 15 0), .int x1]).toArray below meth c H locs 0 0 (MQ below (kh_Qi D ca A ad (f_X5_come ρ x1)) ([.ref (ad 15 0), .int x1]).toArray s 0 0 A) (F0 m 67 ls []) := by
    intro ρ_67 x1_67 x2_67 x3_67 H locs ls hF hw hS hl
    unfold f_X5_come_L67 at hF
    refine lv_iconst (v := (0 : Int32)) C.1 C.2.1 dX5_come_67 (by decide) ?_
    exact wL68 ρ_67 x1_67 x2_67 x3_67 (0 : Int32) _ _ _ hF hw hS (kh_sub hl [0, 1, 2, 3] rfl)
  have wL54 : ∀ (ρ_54 : kh_S) (x1_54 : Int32) (x2_54 : Int32) (x3_54 : Int32) (H : Heap) (locs : List Loc) (ls : Array Slot), f_X5_come_L54 ρ_54 x1_54 x2_54 x3_54 = some q0 → kh_w D ca A ad ρ_54 H → va_S A s.heap H locs → kh_lv ls 6 [(0, .ref (ad 15 0)), (1, .int x1_54), (2, .int x2_54), (3, .int x3_54)] → W p l e (headSpec wsX5_come ({ frames := 3, cells := 0, slots := 0, locals := 67 } : Room)).room s m ([.ref (ad 15 0), .int x1]).toArray below meth c H locs 0 0 (MQ below (kh_Qi D ca A ad (f_X5_come ρ x1)) ([.ref (ad 15 0), .int x1]).toArray s 0 0 A) (F0 m 54 ls []) := by
    intro ρ_54 x1_54 x2_54 x3_54 H locs ls hF hw hS hl
    unfold f_X5_come_L54 at hF
    refine lv_aload_n C.1 C.2.1 dX5_come_54 rfl (kh_at hl 0 rfl) ?_
    refine kh_get C hw 15 14 rfl (kh_z15 ρ_54) kh_kd15 (Cn := RX5) (T := TX5) (N := 33) rfl (Nat.le_of_ble_eq_true rfl) k_103 (kf_15_14 ad ρ_54 0) dX5_come_55 ?_
    refine lv_bipush (v := (30 : Int32)) C.1 C.2.1 dX5_come_58 (by decide) ?_
    refine lv_icmp_ge (tgt := 67) C.1 C.2.1 dX5_come_60 (by decide) (fun c_14 => ?_) (fun c_14 => ?_)
    · have hF := kh_ift hF c_14
      exact wL67 ρ_54 x1_54 x2_54 x3_54 _ _ _ hF hw hS (kh_sub hl [0, 1, 2, 3] rfl)
    · have hF := kh_iff hF c_14
      refine lv_iconst (v := (1 : Int32)) C.1 C.2.1 dX5_come_63 (by decide) ?_
      refine lv_goto (tgt := 68) C.1 C.2.1 dX5_come_64 (by decide) ?_
      exact wL68 ρ_54 x1_54 x2_54 x3_54 (1 : Int32) _ _ _ hF hw hS (kh_sub hl [0, 1, 2, 3] rfl)
  have wL19 : ∀ (ρ_19 : kh_S) (x1_19 : Int32) (x2_19 : Int32) (t0_19 : Int32) (H : Heap) (locs : List Loc) (ls : Array Slot), f_X5_come_L19 ρ_19 x1_19 x2_19 t0_19 = some q0 → kh_w D ca A ad ρ_19 H → va_S A s.heap H locs → kh_lv ls 6 [(0, .ref (ad 15 0)), (1, .int x1_19), (2, .int x2_19)] → W p l e (headSpec wsX5_come ({ frames := 3, cells := 0, slots := 0, locals := 67 } : Room)).room s m ([.ref (ad 15 0), .int x1]).toArray below meth c H locs 0 0 (MQ below (kh_Qi D ca A ad (f_X5_come ρ x1)) ([.ref (ad 15 0), .int x1]).toArray s 0 0 A) (F0 m 19 ls [.int t0_19]) := by
    intro ρ_19 x1_19 x2_19 t0_19 H locs ls hF hw hS hl
    unfold f_X5_come_L19 at hF
    refine kh_istore_n (lv' := [(3, .int t0_19), (0, .ref (ad 15 0)), (1, .int x1_19), (2, .int x2_19)]) C.1 C.2.1 dX5_come_19 rfl hl (by decide) rfl (fun ls hl => ?_)
    refine lv_iload_n C.1 C.2.1 dX5_come_20 rfl (kh_at hl 3 rfl) ?_
    refine lv_if_eq (tgt := 67) C.1 C.2.1 dX5_come_21 (by decide) (fun c_15 => ?_) (fun c_15 => ?_)
    · have hF := kh_ift hF c_15
      exact wL67 ρ_19 x1_19 x2_19 t0_19 _ _ _ hF hw hS (kh_sub hl [1, 2, 3, 0] rfl)
    · have hF := kh_iff hF c_15
      refine lv_aload_n C.1 C.2.1 dX5_come_24 rfl (kh_at hl 1 rfl) ?_
      refine kh_get C hw 15 6 rfl (kh_z15 ρ_19) kh_kd15 (Cn := RX5) (T := TX5) (N := 33) rfl (Nat.le_of_ble_eq_true rfl) k_16 (kf_15_6 ad ρ_19 0) dX5_come_25 ?_
      refine lv_iload_n C.1 C.2.1 dX5_come_28 rfl (kh_at hl 2 rfl) ?_
      obtain ⟨g_16, hF⟩ := kh_gd_ok hF
      refine kh_iald C hw 26 rfl (kh_z26 ρ_19) kh_kd26 g_16 dX5_come_29 ?_
      refine lv_if_ne (tgt := 67) C.1 C.2.1 dX5_come_30 (by decide) (fun c_17 => ?_) (fun c_17 => ?_)
      · have hF := kh_iff hF c_17
        exact wL67 ρ_19 x1_19 x2_19 t0_19 _ _ _ hF hw hS (kh_sub hl [1, 2, 3, 0] rfl)
      · have hF := kh_ift hF c_17
        refine lv_aload_n C.1 C.2.1 dX5_come_33 rfl (kh_at hl 1 rfl) ?_
        refine lv_iload_n C.1 C.2.1 dX5_come_34 rfl (kh_at hl 2 rfl) ?_
        obtain ⟨r_18, h_18, hF⟩ := kh_bd_ok hF
        refine kh_calli (va_runV (As := [.int x1_19]) (rest := []) ⟨C.1, C.2.1, C.2.2.1, C.2.2.2.1, C.2.2.2.2.1⟩ (c_X5_isLeavable l D ca A ad ρ_19 x1_19 h_18) (cwV 1 C.2.2.2.2.1 gX5_come_X5_isLeavable rfl rfl rfl (by decide +kernel) ⟨Nat.le_of_ble_eq_true rfl, Nat.le_of_ble_eq_true rfl⟩) (kh_preV C hw hS 15 (kh_z15 ρ_19) kh_kd15 rfl) rfl rfl hl.1.1 rfl (lv_room (kh_sum kh_an (Nat.le_of_ble_eq_true rfl))) dX5_come_35 ⟨Nat.le_of_ble_eq_true rfl, Nat.le_of_ble_eq_true rfl⟩) hS (kh_mp h_18) (fun H locs hw hS => ?_)
        refine lv_if_eq (tgt := 67) C.1 C.2.1 dX5_come_38 (by decide) (fun c_19 => ?_) (fun c_19 => ?_)
        · have hF := kh_ift hF c_19
          exact wL67 ρ_19 x1_19 x2_19 t0_19 _ _ _ hF hw hS (kh_sub hl [1, 2, 3, 0] rfl)
        · have hF := kh_iff hF c_19
          refine lv_iload_n C.1 C.2.1 dX5_come_41 rfl (kh_at hl 0 rfl) ?_
          refine lv_iconst (v := (-1 : Int32)) C.1 C.2.1 dX5_come_42 (by decide) ?_
          refine lv_icmp_ne (tgt := 54) C.1 C.2.1 dX5_come_43 (by decide) (fun c_20 => ?_) (fun c_20 => ?_)
          · have hF := kh_iff hF c_20
            exact wL54 ρ_19 x1_19 x2_19 t0_19 _ _ _ hF hw hS (kh_sub hl [1, 2, 3, 0] rfl)
          · have hF := kh_ift hF c_20
            refine lv_aload_n C.1 C.2.1 dX5_come_46 rfl (kh_at hl 1 rfl) ?_
            refine lv_iload_n C.1 C.2.1 dX5_come_47 rfl (kh_at hl 2 rfl) ?_
            obtain ⟨r_21, h_21, hF⟩ := kh_bd_ok hF
            refine kh_calli (va_runV (As := [.int x1_19]) (rest := []) ⟨C.1, C.2.1, C.2.2.1, C.2.2.2.1, C.2.2.2.2.1⟩ (c_X5_isNear l D ca A ad ρ_19 x1_19 h_21) (cwV 1 C.2.2.2.2.1 gX5_come_X5_isNear rfl rfl rfl (by decide +kernel) ⟨Nat.le_of_ble_eq_true rfl, Nat.le_of_ble_eq_true rfl⟩) (kh_preV C hw hS 15 (kh_z15 ρ_19) kh_kd15 rfl) rfl rfl hl.1.1 rfl (lv_room (kh_sum kh_an (Nat.le_of_ble_eq_true rfl))) dX5_come_48 ⟨Nat.le_of_ble_eq_true rfl, Nat.le_of_ble_eq_true rfl⟩) hS (kh_mp h_21) (fun H locs hw hS => ?_)
            refine lv_if_ne (tgt := 67) C.1 C.2.1 dX5_come_51 (by decide) (fun c_22 => ?_) (fun c_22 => ?_)
            · have hF := kh_iff hF c_22
              exact wL67 ρ_19 x1_19 x2_19 t0_19 _ _ _ hF hw hS (kh_sub hl [1, 2, 3, 0] rfl)
            · have hF := kh_ift hF c_22
              exact wL54 ρ_19 x1_19 x2_19 t0_19 _ _ _ hF hw hS (kh_sub hl [1, 2, 3, 0] rfl)
  refine lv_aload_n C.1 C.2.1 dX5_come_0 rfl (kh_at hl 0 rfl) ?_
  refine lv_iload_n C.1 C.2.1 dX5_come_1 rfl (kh_at hl 1 rfl) ?_
  obtain ⟨r_23, h_23, hF⟩ := kh_bd_ok hF
  refine kh_calli (va_runV (As := [.int x1]) (rest := []) ⟨C.1, C.2.1, C.2.2.1, C.2.2.2.1, C.2.2.2.2.1⟩ (c_X5_isRoom l D ca A ad ρ x1 h_23) (cwV 1 C.2.2.2.2.1 gX5_come_X5_isRoom rfl rfl rfl (by decide +kernel) ⟨Nat.le_of_ble_eq_true rfl, Nat.le_of_ble_eq_true rfl⟩) (kh_preV C hw hS 15 (kh_z15 ρ) kh_kd15 rfl) rfl rfl hl.1.1 rfl (lv_room (kh_sum kh_an (Nat.le_of_ble_eq_true rfl))) dX5_come_2 ⟨Nat.le_of_ble_eq_true rfl, Nat.le_of_ble_eq_true rfl⟩) hS (kh_mp h_23) (fun H locs hw hS => ?_)
  refine kh_istore_n (lv' := [(2, .int r_23), (0, .ref (ad 15 0)), (1, .int x1)]) C.1 C.2.1 dX5_come_5 rfl hl (by decide) rfl (fun ls hl => ?_)
  refine lv_iload_n C.1 C.2.1 dX5_come_6 rfl (kh_at hl 0 rfl) ?_
  refine lv_if_eq (tgt := 18) C.1 C.2.1 dX5_come_7 (by decide) (fun c_24 => ?_) (fun c_24 => ?_)
  · have hF := kh_ift hF c_24
    refine lv_iconst (v := (-1 : Int32)) C.1 C.2.1 dX5_come_18 (by decide) ?_
    exact wL19 ρ x1 r_23 (-1 : Int32) _ _ _ hF hw hS (kh_sub hl [1, 2, 0] rfl)
  · have hF := kh_iff hF c_24
    refine lv_aload_n C.1 C.2.1 dX5_come_10 rfl (kh_at hl 1 rfl) ?_
    refine lv_iload_n C.1 C.2.1 dX5_come_11 rfl (kh_at hl 2 rfl) ?_
    obtain ⟨r_25, h_25, hF⟩ := kh_bd_ok hF
    refine kh_calli (va_runV (As := [.int x1]) (rest := []) ⟨C.1, C.2.1, C.2.2.1, C.2.2.2.1, C.2.2.2.2.1⟩ (c_X5_bookingFor l D ca A ad ρ x1 h_25) (cwV 1 C.2.2.2.2.1 gX5_come_X5_bookingFor rfl rfl rfl (by decide +kernel) ⟨Nat.le_of_ble_eq_true rfl, Nat.le_of_ble_eq_true rfl⟩) (kh_preV C hw hS 15 (kh_z15 ρ) kh_kd15 rfl) rfl rfl hl.1.1 rfl (lv_room (kh_sum kh_an (Nat.le_of_ble_eq_true rfl))) dX5_come_12 ⟨Nat.le_of_ble_eq_true rfl, Nat.le_of_ble_eq_true rfl⟩) hS (kh_mp h_25) (fun H locs hw hS => ?_)
    refine lv_goto (tgt := 19) C.1 C.2.1 dX5_come_15 (by decide) ?_
    exact wL19 ρ x1 r_23 r_25 _ _ _ hF hw hS (kh_sub hl [1, 2, 0] rfl)

def f_X5_maySolve_L56 (ρ : kh_S) (t0_56 : Int32) : Option (Int32) := kh_gd (kh_b t0_56) (some t0_56)
def f_X5_maySolve_L55 (ρ : kh_S) : Option (Int32) := f_X5_maySolve_L56 ρ (0 : Int32)
def f_X5_maySolve (ρ : kh_S) (x1 : Int32) (x2 : Int32) : Option (Int32) := kh_gd (kh_in x1 30) (if (((ρ 38 0 0 x1.toNatClampNeg) >>> (x2 &&& 31)) &&& (1 : Int32)) = 0 then kh_bd (f_X5_isOut ρ (((8 : Int32) * (ρ 36 0 0 x1.toNatClampNeg)) + x2)) (fun r_4 => if r_4 = 0 then kh_gd (kh_in (((8 : Int32) * (ρ 36 0 0 x1.toNatClampNeg)) + x2) 32) (if ((ρ 30 0 0 (((8 : Int32) * (ρ 36 0 0 x1.toNatClampNeg)) + x2).toNatClampNeg) &&& ((ρ 37 0 0 x1.toNatClampNeg) ^^^ (-1 : Int32))) = 0 then f_X5_maySolve_L56 ρ (1 : Int32) else f_X5_maySolve_L55 ρ) else f_X5_maySolve_L55 ρ) else f_X5_maySolve_L55 ρ)
set_option maxHeartbeats 4000000 in
set_option maxRecDepth 100000 in
theorem c_X5_maySolve (l : Launch) (D : va_G) (ca : Nat → ClassId) (A : Nat → Prop) (ad : Nat → Nat → Nat) (ρ : kh_S) (x1 : Int32) (x2 : Int32) {q0 : Int32} (hF0 : f_X5_maySolve ρ x1 x2 = some q0) : Met l yX5_maySolve wsX5_maySolve ({ frames := 1, cells := 0, slots := 0, locals := 21 } : Room) (va_Pc [.ref (ad 15 0), .int x1, .int x2] (kh_I D ca A ad ρ)) (kh_Qi D ca A ad (kh_pu (f_X5_maySolve ρ x1 x2) ρ)) 0 0 A := by
  refine Met.ofW (cc := cX5_maySolve) (maxL := 4) (ret := (some .boolean)) (by decide) rfl ?_
  intro p e s m args below meth c s₁ B hml hv
  obtain ⟨rfl, hK, hw, hA⟩ := hv
  have C : kh_C p s m ([.ref (ad 15 0), .int x1, .int x2]).toArray c cX5_maySolve 4 RX5 wsX5_maySolve D ca A := ⟨B.exec, B.bytes, hml, findClass_of_methodNamed B.named, atoms_spec (ws := wsX5_maySolve) B.pre, hK, hA⟩
  have hr := B.returns
  have hlocks := B.notSynchronized
  have hS : va_S A s.heap s.heap [] := va_S.rf
  have hl := kh_entry ([.ref (ad 15 0), .int x1, .int x2]) (n := 4) (kh_ac rfl (kh_ac rfl (kh_ac rfl kh_an))) (Nat.le_of_ble_eq_true rfl)
  rw [lg_entry_eq]
  generalize (lg_sl ([.ref (ad 15 0), .int x1, .int x2]) ++ List.replicate (4 - (lg_sl ([.ref (ad 15 0), .int x1, .int x2])).length) Slot.unset).toArray = ls at hl ⊢
  have hl : kh_lv ls 4 [(0, .ref (ad 15 0)), (1, .int x1), (2, .int x2)] := hl
  have k_43 := C.2.2.2.2.1 (.fieldLink RX5 43 "KeylessHallModel" "roomOf" "[I") (by decide +kernel)
  have k_49 := C.2.2.2.2.1 (.fieldLink RX5 49 "KeylessHallModel" "solved" "[I") (by decide +kernel)
  have k_28 := C.2.2.2.2.1 (.fieldLink RX5 28 "KeylessHallModel" "needs" "[I") (by decide +kernel)
  have k_46 := C.2.2.2.2.1 (.fieldLink RX5 46 "KeylessHallModel" "holds" "[I") (by decide +kernel)
  have hF := hF0
  unfold f_X5_maySolve at hF
  have wL56 : ∀ (t0_56 : Int32) (H : Heap) (locs : List Loc) (ls : Array Slot), f_X5_maySolve_L56 ρ t0_56 = some q0 → kh_w D ca A ad ρ H → va_S A s.heap H locs → kh_lv ls 4 [] → W p l e (headSpec wsX5_maySolve ({ frames := 1, cells := 0, slots := 0, locals := 21 } : Room)).room s m ([.ref (ad 15 0), .int x1, .int x2]).toArray below meth c H locs 0 0 (MQ below (kh_Qi D ca A ad (kh_pu (f_X5_maySolve ρ x1 x2) ρ)) ([.ref (ad 15 0), .int x1, .int x2]).toArray s 0 0 A) (F0 m 56 ls [.int t0_56]) := by
    intro t0_56 H locs ls hF hw hS hl
    unfold f_X5_maySolve_L56 at hF
    obtain ⟨g_1, hF⟩ := kh_gd_ok hF
    exact W.zret (v := t0_56) (ty := .boolean) C.1 C.2.1 hr (kh_b_ok g_1).1 (fun t ht hW => ⟨⟨t0_56, ρ, rfl, kh_mp (hF0.trans hF.symm), kh_bk ht hw⟩, hS.F ht⟩) hS.2.2 dX5_maySolve_56
  have wL55 : ∀ (H : Heap) (locs : List Loc) (ls : Array Slot), f_X5_maySolve_L55 ρ = some q0 → kh_w D ca A ad ρ H → va_S A s.heap H locs → kh_lv ls 4 [] → W p l e (headSpec wsX5_maySolve ({ frames := 1, cells := 0, slots := 0, locals := 21 } : Room)).room s m ([.ref (ad 15 0), .int x1, .int x2]).toArray below meth c H locs 0 0 (MQ below (kh_Qi D ca A ad (kh_pu (f_X5_maySolve ρ x1 x2) ρ)) ([.ref (ad 15 0), .int x1, .int x2]).toArray s 0 0 A) (F0 m 55 ls []) := by
    intro  H locs ls hF hw hS hl
    unfold f_X5_maySolve_L55 at hF
    refine lv_iconst (v := (0 : Int32)) C.1 C.2.1 dX5_maySolve_55 (by decide) ?_
    exact wL56 (0 : Int32) _ _ _ hF hw hS (kh_sub hl [] rfl)
  refine lv_bipush (v := (8 : Int32)) C.1 C.2.1 dX5_maySolve_0 (by decide) ?_
  refine lv_aload_n C.1 C.2.1 dX5_maySolve_2 rfl (kh_at hl 0 rfl) ?_
  refine kh_get C hw 15 16 rfl (kh_z15 ρ) kh_kd15 (Cn := RX5) (T := TX5) (N := 33) rfl (Nat.le_of_ble_eq_true rfl) k_43 (kf_15_16 ad ρ 0) dX5_maySolve_3 ?_
  refine lv_iload_n C.1 C.2.1 dX5_maySolve_6 rfl (kh_at hl 1 rfl) ?_
  obtain ⟨g_2, hF⟩ := kh_gd_ok hF
  refine kh_iald C hw 36 rfl (kh_z36 ρ) kh_kd36 g_2 dX5_maySolve_7 ?_
  refine lv_imul C.1 C.2.1 dX5_maySolve_8 ?_
  refine lv_iload_n C.1 C.2.1 dX5_maySolve_9 rfl (kh_at hl 2 rfl) ?_
  refine lv_iadd C.1 C.2.1 dX5_maySolve_10 ?_
  refine kh_istore_n (lv' := [(3, .int (((8 : Int32) * (ρ 36 0 0 x1.toNatClampNeg)) + x2)), (0, .ref (ad 15 0)), (1, .int x1), (2, .int x2)]) C.1 C.2.1 dX5_maySolve_11 rfl hl (by decide) rfl (fun ls hl => ?_)
  refine lv_aload_n C.1 C.2.1 dX5_maySolve_12 rfl (kh_at hl 1 rfl) ?_
  refine kh_get C hw 15 18 rfl (kh_z15 ρ) kh_kd15 (Cn := RX5) (T := TX5) (N := 33) rfl (Nat.le_of_ble_eq_true rfl) k_49 (kf_15_18 ad ρ 0) dX5_maySolve_13 ?_
  refine lv_iload_n C.1 C.2.1 dX5_maySolve_16 rfl (kh_at hl 2 rfl) ?_
  refine kh_iald C hw 38 rfl (kh_z38 ρ) kh_kd38 g_2 dX5_maySolve_17 ?_
  refine lv_iload_n C.1 C.2.1 dX5_maySolve_18 rfl (kh_at hl 3 rfl) ?_
  refine lv_ishr C.1 C.2.1 dX5_maySolve_19 ?_
  refine lv_iconst (v := (1 : Int32)) C.1 C.2.1 dX5_maySolve_20 (by decide) ?_
  refine lv_iand C.1 C.2.1 dX5_maySolve_21 ?_
  refine lv_if_ne (tgt := 55) C.1 C.2.1 dX5_maySolve_22 (by decide) (fun c_3 => ?_) (fun c_3 => ?_)
  · have hF := kh_iff hF c_3
    exact wL55  _ _ _ hF hw hS (kh_sub hl [] rfl)
  · have hF := kh_ift hF c_3
    refine lv_aload_n C.1 C.2.1 dX5_maySolve_25 rfl (kh_at hl 1 rfl) ?_
    refine lv_iload_n C.1 C.2.1 dX5_maySolve_26 rfl (kh_at hl 0 rfl) ?_
    obtain ⟨r_4, h_4, hF⟩ := kh_bd_ok hF
    refine kh_calli (va_runV (As := [.int (((8 : Int32) * (ρ 36 0 0 x1.toNatClampNeg)) + x2)]) (rest := []) ⟨C.1, C.2.1, C.2.2.1, C.2.2.2.1, C.2.2.2.2.1⟩ (c_X5_isOut l D ca A ad ρ (((8 : Int32) * (ρ 36 0 0 x1.toNatClampNeg)) + x2) h_4) (cwV 1 C.2.2.2.2.1 gX5_maySolve_X5_isOut rfl rfl rfl (by decide +kernel) ⟨Nat.le_of_ble_eq_true rfl, Nat.le_of_ble_eq_true rfl⟩) (kh_preV C hw hS 15 (kh_z15 ρ) kh_kd15 rfl) rfl rfl hl.1.1 rfl (lv_room (kh_sum kh_an (Nat.le_of_ble_eq_true rfl))) dX5_maySolve_27 ⟨Nat.le_of_ble_eq_true rfl, Nat.le_of_ble_eq_true rfl⟩) hS (kh_mp h_4) (fun H locs hw hS => ?_)
    refine lv_if_ne (tgt := 55) C.1 C.2.1 dX5_maySolve_30 (by decide) (fun c_5 => ?_) (fun c_5 => ?_)
    · have hF := kh_iff hF c_5
      exact wL55  _ _ _ hF hw hS (kh_sub hl [] rfl)
    · have hF := kh_ift hF c_5
      refine lv_aload_n C.1 C.2.1 dX5_maySolve_33 rfl (kh_at hl 1 rfl) ?_
      refine kh_get C hw 15 10 rfl (kh_z15 ρ) kh_kd15 (Cn := RX5) (T := TX5) (N := 33) rfl (Nat.le_of_ble_eq_true rfl) k_28 (kf_15_10 ad ρ 0) dX5_maySolve_34 ?_
      refine lv_iload_n C.1 C.2.1 dX5_maySolve_37 rfl (kh_at hl 0 rfl) ?_
      obtain ⟨g_6, hF⟩ := kh_gd_ok hF
      refine kh_iald C hw 30 rfl (kh_z30 ρ) kh_kd30 g_6 dX5_maySolve_38 ?_
      refine lv_aload_n C.1 C.2.1 dX5_maySolve_39 rfl (kh_at hl 1 rfl) ?_
      refine kh_get C hw 15 17 rfl (kh_z15 ρ) kh_kd15 (Cn := RX5) (T := TX5) (N := 33) rfl (Nat.le_of_ble_eq_true rfl) k_46 (kf_15_17 ad ρ 0) dX5_maySolve_40 ?_
      refine lv_iload_n C.1 C.2.1 dX5_maySolve_43 rfl (kh_at hl 2 rfl) ?_
      refine kh_iald C hw 37 rfl (kh_z37 ρ) kh_kd37 g_2 dX5_maySolve_44 ?_
      refine lv_iconst (v := (-1 : Int32)) C.1 C.2.1 dX5_maySolve_45 (by decide) ?_
      refine lv_ixor C.1 C.2.1 dX5_maySolve_46 ?_
      refine lv_iand C.1 C.2.1 dX5_maySolve_47 ?_
      refine lv_if_ne (tgt := 55) C.1 C.2.1 dX5_maySolve_48 (by decide) (fun c_7 => ?_) (fun c_7 => ?_)
      · have hF := kh_iff hF c_7
        exact wL55  _ _ _ hF hw hS (kh_sub hl [] rfl)
      · have hF := kh_ift hF c_7
        refine lv_iconst (v := (1 : Int32)) C.1 C.2.1 dX5_maySolve_51 (by decide) ?_
        refine lv_goto (tgt := 56) C.1 C.2.1 dX5_maySolve_52 (by decide) ?_
        exact wL56 (1 : Int32) _ _ _ hF hw hS (kh_sub hl [] rfl)

def f_X5_solve_L130 (ρ_130 : kh_S) (x1_130 : Int32) : Option (Int32 × kh_S) := kh_gd (kh_in x1_130 30) (some (ρ_130 37 0 0 x1_130.toNatClampNeg, ρ_130))
def f_X5_solve_L67 (ρ_67 : kh_S) (x1_67 : Int32) (x2_67 : Int32) (t1_67 : Int32) : Option (Int32 × kh_S) := kh_bd2 (f_X5_refused ρ_67 t1_67) (fun r_2 ρ_2 => if r_2 = 0 then kh_gd (kh_in x1_67 30) (kh_gd (kh_in (((8 : Int32) * ((kh_up ρ_2 38 0 0 x1_67.toNatClampNeg ((ρ_2 38 0 0 x1_67.toNatClampNeg) ||| ((1 : Int32) <<< (x2_67 &&& 31)))) 36 0 0 x1_67.toNatClampNeg)) + x2_67) 32) (if (((kh_up (kh_up ρ_2 38 0 0 x1_67.toNatClampNeg ((ρ_2 38 0 0 x1_67.toNatClampNeg) ||| ((1 : Int32) <<< (x2_67 &&& 31)))) 37 0 0 x1_67.toNatClampNeg (((kh_up ρ_2 38 0 0 x1_67.toNatClampNeg ((ρ_2 38 0 0 x1_67.toNatClampNeg) ||| ((1 : Int32) <<< (x2_67 &&& 31)))) 37 0 0 x1_67.toNatClampNeg) ||| ((kh_up ρ_2 38 0 0 x1_67.toNatClampNeg ((ρ_2 38 0 0 x1_67.toNatClampNeg) ||| ((1 : Int32) <<< (x2_67 &&& 31)))) 31 0 0 (((8 : Int32) * ((kh_up ρ_2 38 0 0 x1_67.toNatClampNeg ((ρ_2 38 0 0 x1_67.toNatClampNeg) ||| ((1 : Int32) <<< (x2_67 &&& 31)))) 36 0 0 x1_67.toNatClampNeg)) + x2_67).toNatClampNeg))) 37 0 0 x1_67.toNatClampNeg) &&& (1 : Int32)) = (1 : Int32) then kh_bd (f_X5_leaves (kh_up (kh_up ρ_2 38 0 0 x1_67.toNatClampNeg ((ρ_2 38 0 0 x1_67.toNatClampNeg) ||| ((1 : Int32) <<< (x2_67 &&& 31)))) 37 0 0 x1_67.toNatClampNeg (((kh_up ρ_2 38 0 0 x1_67.toNatClampNeg ((ρ_2 38 0 0 x1_67.toNatClampNeg) ||| ((1 : Int32) <<< (x2_67 &&& 31)))) 37 0 0 x1_67.toNatClampNeg) ||| ((kh_up ρ_2 38 0 0 x1_67.toNatClampNeg ((ρ_2 38 0 0 x1_67.toNatClampNeg) ||| ((1 : Int32) <<< (x2_67 &&& 31)))) 31 0 0 (((8 : Int32) * ((kh_up ρ_2 38 0 0 x1_67.toNatClampNeg ((ρ_2 38 0 0 x1_67.toNatClampNeg) ||| ((1 : Int32) <<< (x2_67 &&& 31)))) 36 0 0 x1_67.toNatClampNeg)) + x2_67).toNatClampNeg))) x1_67 (1 : Int32)) (fun ρ_7 => f_X5_solve_L130 ρ_7 x1_67) else f_X5_solve_L130 (kh_up (kh_up ρ_2 38 0 0 x1_67.toNatClampNeg ((ρ_2 38 0 0 x1_67.toNatClampNeg) ||| ((1 : Int32) <<< (x2_67 &&& 31)))) 37 0 0 x1_67.toNatClampNeg (((kh_up ρ_2 38 0 0 x1_67.toNatClampNeg ((ρ_2 38 0 0 x1_67.toNatClampNeg) ||| ((1 : Int32) <<< (x2_67 &&& 31)))) 37 0 0 x1_67.toNatClampNeg) ||| ((kh_up ρ_2 38 0 0 x1_67.toNatClampNeg ((ρ_2 38 0 0 x1_67.toNatClampNeg) ||| ((1 : Int32) <<< (x2_67 &&& 31)))) 31 0 0 (((8 : Int32) * ((kh_up ρ_2 38 0 0 x1_67.toNatClampNeg ((ρ_2 38 0 0 x1_67.toNatClampNeg) ||| ((1 : Int32) <<< (x2_67 &&& 31)))) 36 0 0 x1_67.toNatClampNeg)) + x2_67).toNatClampNeg))) x1_67)) else some ((0 : Int32), ρ_2))
def f_X5_solve_L62 (ρ_62 : kh_S) (x1_62 : Int32) (x2_62 : Int32) : Option (Int32 × kh_S) := f_X5_solve_L67 ρ_62 x1_62 x2_62 (2 : Int32)
def f_X5_solve_L34 (ρ_34 : kh_S) (x1_34 : Int32) (x2_34 : Int32) (t0_34 : Int32) : Option (Int32 × kh_S) := if t0_34 = 0 then f_X5_solve_L67 ρ_34 x1_34 x2_34 (1 : Int32) else kh_gd (kh_in x1_34 30) (if (ρ_34 35 0 0 x1_34.toNatClampNeg) = 0 then kh_bd (f_X5_maySolve ρ_34 x1_34 x2_34) (fun r_11 => if r_11 = 0 then f_X5_solve_L62 ρ_34 x1_34 x2_34 else f_X5_solve_L67 ρ_34 x1_34 x2_34 (0 : Int32)) else f_X5_solve_L62 ρ_34 x1_34 x2_34)
def f_X5_solve_L33 (ρ_33 : kh_S) (x1_33 : Int32) (x2_33 : Int32) : Option (Int32 × kh_S) := f_X5_solve_L34 ρ_33 x1_33 x2_33 (0 : Int32)
def f_X5_solve (ρ : kh_S) (x1 : Int32) (x2 : Int32) : Option (Int32 × kh_S) := kh_bd (f_X5_isGroup ρ x1) (fun r_13 => if r_13 = 0 then f_X5_solve_L33 ρ x1 x2 else kh_gd (kh_in x1 30) (kh_gd (kh_in (ρ 36 0 0 x1.toNatClampNeg) 4) (kh_bd (f_X5_in ρ x2 (0 : Int32) ((ρ 25 0 0 (ρ 36 0 0 x1.toNatClampNeg).toNatClampNeg) - (1 : Int32))) (fun r_17 => if r_17 = 0 then f_X5_solve_L33 ρ x1 x2 else f_X5_solve_L34 ρ x1 x2 (1 : Int32)))))
set_option maxHeartbeats 4000000 in
set_option maxRecDepth 100000 in
theorem c_X5_solve (l : Launch) (D : va_G) (ca : Nat → ClassId) (A : Nat → Prop) (ad : Nat → Nat → Nat) (ρ : kh_S) (x1 : Int32) (x2 : Int32) {q0 : Int32 × kh_S} (hF0 : f_X5_solve ρ x1 x2 = some q0) : Met l yX5_solve wsX5_solve ({ frames := 2, cells := 0, slots := 0, locals := 44 } : Room) (va_Pc [.ref (ad 15 0), .int x1, .int x2] (kh_I D ca A ad ρ)) (kh_Qi D ca A ad (f_X5_solve ρ x1 x2)) 0 0 A := by
  refine Met.ofW (cc := cX5_solve) (maxL := 4) (ret := (some .int)) (by decide) rfl ?_
  intro p e s m args below meth c s₁ B hml hv
  obtain ⟨rfl, hK, hw, hA⟩ := hv
  have C : kh_C p s m ([.ref (ad 15 0), .int x1, .int x2]).toArray c cX5_solve 4 RX5 wsX5_solve D ca A := ⟨B.exec, B.bytes, hml, findClass_of_methodNamed B.named, atoms_spec (ws := wsX5_solve) B.pre, hK, hA⟩
  have hr := B.returns
  have hlocks := B.notSynchronized
  have hS : va_S A s.heap s.heap [] := va_S.rf
  have hl := kh_entry ([.ref (ad 15 0), .int x1, .int x2]) (n := 4) (kh_ac rfl (kh_ac rfl (kh_ac rfl kh_an))) (Nat.le_of_ble_eq_true rfl)
  rw [lg_entry_eq]
  generalize (lg_sl ([.ref (ad 15 0), .int x1, .int x2]) ++ List.replicate (4 - (lg_sl ([.ref (ad 15 0), .int x1, .int x2])).length) Slot.unset).toArray = ls at hl ⊢
  have hl : kh_lv ls 4 [(0, .ref (ad 15 0)), (1, .int x1), (2, .int x2)] := hl
  have k_46 := C.2.2.2.2.1 (.fieldLink RX5 46 "KeylessHallModel" "holds" "[I") (by decide +kernel)
  have k_49 := C.2.2.2.2.1 (.fieldLink RX5 49 "KeylessHallModel" "solved" "[I") (by decide +kernel)
  have k_31 := C.2.2.2.2.1 (.fieldLink RX5 31 "KeylessHallModel" "gives" "[I") (by decide +kernel)
  have k_43 := C.2.2.2.2.1 (.fieldLink RX5 43 "KeylessHallModel" "roomOf" "[I") (by decide +kernel)
  have k_40 := C.2.2.2.2.1 (.fieldLink RX5 40 "KeylessHallModel" "how" "[I") (by decide +kernel)
  have k_13 := C.2.2.2.2.1 (.fieldLink RX5 13 "KeylessHallModel" "many" "[I") (by decide +kernel)
  have hF := hF0
  unfold f_X5_solve at hF
  have wL130 : ∀ (ρ_130 : kh_S) (x1_130 : Int32) (H : Heap) (locs : List Loc) (ls : Array Slot), f_X5_solve_L130 ρ_130 x1_130 = some q0 → kh_w D ca A ad ρ_130 H → va_S A s.heap H locs → kh_lv ls 4 [(0, .ref (ad 15 0)), (1, .int x1_130)] → W p l e (headSpec wsX5_solve ({ frames := 2, cells := 0, slots := 0, locals := 44 } : Room)).room s m ([.ref (ad 15 0), .int x1, .int x2]).toArray below meth c H locs 0 0 (MQ below (kh_Qi D ca A ad (f_X5_solve ρ x1 x2)) ([.ref (ad 15 0), .int x1, .int x2]).toArray s 0 0 A) (F0 m 130 ls []) := by
    intro ρ_130 x1_130 H locs ls hF hw hS hl
    unfold f_X5_solve_L130 at hF
    refine lv_aload_n C.1 C.2.1 dX5_solve_130 rfl (kh_at hl 0 rfl) ?_
    refine kh_get C hw 15 17 rfl (kh_z15 ρ_130) kh_kd15 (Cn := RX5) (T := TX5) (N := 33) rfl (Nat.le_of_ble_eq_true rfl) k_46 (kf_15_17 ad ρ_130 0) dX5_solve_131 ?_
    refine lv_iload_n C.1 C.2.1 dX5_solve_134 rfl (kh_at hl 1 rfl) ?_
    obtain ⟨g_1, hF⟩ := kh_gd_ok hF
    refine kh_iald C hw 37 rfl (kh_z37 ρ_130) kh_kd37 g_1 dX5_solve_135 ?_
    exact W.iret (v := ρ_130 37 0 0 x1_130.toNatClampNeg) C.1 C.2.1 hr (fun t ht hW => ⟨⟨ρ_130 37 0 0 x1_130.toNatClampNeg, ρ_130, rfl, hF0.trans hF.symm, kh_bk ht hw⟩, hS.F ht⟩) hS.2.2 dX5_solve_136
  have wL67 : ∀ (ρ_67 : kh_S) (x1_67 : Int32) (x2_67 : Int32) (t1_67 : Int32) (H : Heap) (locs : List Loc) (ls : Array Slot), f_X5_solve_L67 ρ_67 x1_67 x2_67 t1_67 = some q0 → kh_w D ca A ad ρ_67 H → va_S A s.heap H locs → kh_lv ls 4 [(0, .ref (ad 15 0)), (1, .int x1_67), (2, .int x2_67)] → W p l e (headSpec wsX5_solve ({ frames := 2, cells := 0, slots := 0, locals := 44 } : Room)).room s m ([.ref (ad 15 0), .int x1, .int x2]).toArray below meth c H locs 0 0 (MQ below (kh_Qi D ca A ad (f_X5_solve ρ x1 x2)) ([.ref (ad 15 0), .int x1, .int x2]).toArray s 0 0 A) (F0 m 67 ls [.int t1_67, .ref (ad 15 0)]) := by
    intro ρ_67 x1_67 x2_67 t1_67 H locs ls hF hw hS hl
    unfold f_X5_solve_L67 at hF
    obtain ⟨r_2, ρ_2, h_2, hF⟩ := kh_bd2_ok hF
    refine kh_calli (va_runV (As := [.int t1_67]) (rest := []) ⟨C.1, C.2.1, C.2.2.1, C.2.2.2.1, C.2.2.2.2.1⟩ (c_X5_refused l D ca A ad ρ_67 t1_67 h_2) (cwV 1 C.2.2.2.2.1 gX5_solve_X5_refused rfl rfl rfl (by decide +kernel) ⟨Nat.le_of_ble_eq_true rfl, Nat.le_of_ble_eq_true rfl⟩) (kh_preV C hw hS 15 (kh_z15 ρ_67) kh_kd15 rfl) rfl rfl hl.1.1 rfl (lv_room (kh_sum kh_an (Nat.le_of_ble_eq_true rfl))) dX5_solve_67 ⟨Nat.le_of_ble_eq_true rfl, Nat.le_of_ble_eq_true rfl⟩) hS h_2 (fun H locs hw hS => ?_)
    refine lv_if_eq (tgt := 75) C.1 C.2.1 dX5_solve_70 (by decide) (fun c_3 => ?_) (fun c_3 => ?_)
    · have hF := kh_ift hF c_3
      refine lv_aload_n C.1 C.2.1 dX5_solve_75 rfl (kh_at hl 0 rfl) ?_
      refine kh_get C hw 15 18 rfl (kh_z15 ρ_2) kh_kd15 (Cn := RX5) (T := TX5) (N := 33) rfl (Nat.le_of_ble_eq_true rfl) k_49 (kf_15_18 ad ρ_2 0) dX5_solve_76 ?_
      refine lv_iload_n C.1 C.2.1 dX5_solve_79 rfl (kh_at hl 1 rfl) ?_
      refine lv_dup2_11 C.1 C.2.1 dX5_solve_80 rfl rfl ?_
      obtain ⟨g_4, hF⟩ := kh_gd_ok hF
      refine kh_iald C hw 38 rfl (kh_z38 ρ_2) kh_kd38 g_4 dX5_solve_81 ?_
      refine lv_iconst (v := (1 : Int32)) C.1 C.2.1 dX5_solve_82 (by decide) ?_
      refine lv_iload_n C.1 C.2.1 dX5_solve_83 rfl (kh_at hl 2 rfl) ?_
      refine lv_ishl C.1 C.2.1 dX5_solve_84 ?_
      refine lv_ior C.1 C.2.1 dX5_solve_85 ?_
      refine kh_iast C hw hS 38 rfl (kh_z38 ρ_2) (by decide) kh_kd38 g_4 dX5_solve_86 (fun H locs hw hS => ?_)
      refine lv_aload_n C.1 C.2.1 dX5_solve_87 rfl (kh_at hl 0 rfl) ?_
      refine kh_get C hw 15 17 rfl (kh_z15 (kh_up ρ_2 38 0 0 x1_67.toNatClampNeg ((ρ_2 38 0 0 x1_67.toNatClampNeg) ||| ((1 : Int32) <<< (x2_67 &&& 31))))) kh_kd15 (Cn := RX5) (T := TX5) (N := 33) rfl (Nat.le_of_ble_eq_true rfl) k_46 (kf_15_17 ad (kh_up ρ_2 38 0 0 x1_67.toNatClampNeg ((ρ_2 38 0 0 x1_67.toNatClampNeg) ||| ((1 : Int32) <<< (x2_67 &&& 31)))) 0) dX5_solve_88 ?_
      refine lv_iload_n C.1 C.2.1 dX5_solve_91 rfl (kh_at hl 1 rfl) ?_
      refine lv_dup2_11 C.1 C.2.1 dX5_solve_92 rfl rfl ?_
      refine kh_iald C hw 37 rfl (kh_z37 (kh_up ρ_2 38 0 0 x1_67.toNatClampNeg ((ρ_2 38 0 0 x1_67.toNatClampNeg) ||| ((1 : Int32) <<< (x2_67 &&& 31))))) kh_kd37 g_4 dX5_solve_93 ?_
      refine lv_aload_n C.1 C.2.1 dX5_solve_94 rfl (kh_at hl 0 rfl) ?_
      refine kh_get C hw 15 11 rfl (kh_z15 (kh_up ρ_2 38 0 0 x1_67.toNatClampNeg ((ρ_2 38 0 0 x1_67.toNatClampNeg) ||| ((1 : Int32) <<< (x2_67 &&& 31))))) kh_kd15 (Cn := RX5) (T := TX5) (N := 33) rfl (Nat.le_of_ble_eq_true rfl) k_31 (kf_15_11 ad (kh_up ρ_2 38 0 0 x1_67.toNatClampNeg ((ρ_2 38 0 0 x1_67.toNatClampNeg) ||| ((1 : Int32) <<< (x2_67 &&& 31)))) 0) dX5_solve_95 ?_
      refine lv_bipush (v := (8 : Int32)) C.1 C.2.1 dX5_solve_98 (by decide) ?_
      refine lv_aload_n C.1 C.2.1 dX5_solve_100 rfl (kh_at hl 0 rfl) ?_
      refine kh_get C hw 15 16 rfl (kh_z15 (kh_up ρ_2 38 0 0 x1_67.toNatClampNeg ((ρ_2 38 0 0 x1_67.toNatClampNeg) ||| ((1 : Int32) <<< (x2_67 &&& 31))))) kh_kd15 (Cn := RX5) (T := TX5) (N := 33) rfl (Nat.le_of_ble_eq_true rfl) k_43 (kf_15_16 ad (kh_up ρ_2 38 0 0 x1_67.toNatClampNeg ((ρ_2 38 0 0 x1_67.toNatClampNeg) ||| ((1 : Int32) <<< (x2_67 &&& 31)))) 0) dX5_solve_101 ?_
      refine lv_iload_n C.1 C.2.1 dX5_solve_104 rfl (kh_at hl 1 rfl) ?_
      refine kh_iald C hw 36 rfl (kh_z36 (kh_up ρ_2 38 0 0 x1_67.toNatClampNeg ((ρ_2 38 0 0 x1_67.toNatClampNeg) ||| ((1 : Int32) <<< (x2_67 &&& 31))))) kh_kd36 g_4 dX5_solve_105 ?_
      refine lv_imul C.1 C.2.1 dX5_solve_106 ?_
      refine lv_iload_n C.1 C.2.1 dX5_solve_107 rfl (kh_at hl 2 rfl) ?_
      refine lv_iadd C.1 C.2.1 dX5_solve_108 ?_
      obtain ⟨g_5, hF⟩ := kh_gd_ok hF
      refine kh_iald C hw 31 rfl (kh_z31 (kh_up ρ_2 38 0 0 x1_67.toNatClampNeg ((ρ_2 38 0 0 x1_67.toNatClampNeg) ||| ((1 : Int32) <<< (x2_67 &&& 31))))) kh_kd31 g_5 dX5_solve_109 ?_
      refine lv_ior C.1 C.2.1 dX5_solve_110 ?_
      refine kh_iast C hw hS 37 rfl (kh_z37 (kh_up ρ_2 38 0 0 x1_67.toNatClampNeg ((ρ_2 38 0 0 x1_67.toNatClampNeg) ||| ((1 : Int32) <<< (x2_67 &&& 31))))) (by decide) kh_kd37 g_4 dX5_solve_111 (fun H locs hw hS => ?_)
      refine lv_aload_n C.1 C.2.1 dX5_solve_112 rfl (kh_at hl 0 rfl) ?_
      refine kh_get C hw 15 17 rfl (kh_z15 (kh_up (kh_up ρ_2 38 0 0 x1_67.toNatClampNeg ((ρ_2 38 0 0 x1_67.toNatClampNeg) ||| ((1 : Int32) <<< (x2_67 &&& 31)))) 37 0 0 x1_67.toNatClampNeg (((kh_up ρ_2 38 0 0 x1_67.toNatClampNeg ((ρ_2 38 0 0 x1_67.toNatClampNeg) ||| ((1 : Int32) <<< (x2_67 &&& 31)))) 37 0 0 x1_67.toNatClampNeg) ||| ((kh_up ρ_2 38 0 0 x1_67.toNatClampNeg ((ρ_2 38 0 0 x1_67.toNatClampNeg) ||| ((1 : Int32) <<< (x2_67 &&& 31)))) 31 0 0 (((8 : Int32) * ((kh_up ρ_2 38 0 0 x1_67.toNatClampNeg ((ρ_2 38 0 0 x1_67.toNatClampNeg) ||| ((1 : Int32) <<< (x2_67 &&& 31)))) 36 0 0 x1_67.toNatClampNeg)) + x2_67).toNatClampNeg)))) kh_kd15 (Cn := RX5) (T := TX5) (N := 33) rfl (Nat.le_of_ble_eq_true rfl) k_46 (kf_15_17 ad (kh_up (kh_up ρ_2 38 0 0 x1_67.toNatClampNeg ((ρ_2 38 0 0 x1_67.toNatClampNeg) ||| ((1 : Int32) <<< (x2_67 &&& 31)))) 37 0 0 x1_67.toNatClampNeg (((kh_up ρ_2 38 0 0 x1_67.toNatClampNeg ((ρ_2 38 0 0 x1_67.toNatClampNeg) ||| ((1 : Int32) <<< (x2_67 &&& 31)))) 37 0 0 x1_67.toNatClampNeg) ||| ((kh_up ρ_2 38 0 0 x1_67.toNatClampNeg ((ρ_2 38 0 0 x1_67.toNatClampNeg) ||| ((1 : Int32) <<< (x2_67 &&& 31)))) 31 0 0 (((8 : Int32) * ((kh_up ρ_2 38 0 0 x1_67.toNatClampNeg ((ρ_2 38 0 0 x1_67.toNatClampNeg) ||| ((1 : Int32) <<< (x2_67 &&& 31)))) 36 0 0 x1_67.toNatClampNeg)) + x2_67).toNatClampNeg))) 0) dX5_solve_113 ?_
      refine lv_iload_n C.1 C.2.1 dX5_solve_116 rfl (kh_at hl 1 rfl) ?_
      refine kh_iald C hw 37 rfl (kh_z37 (kh_up (kh_up ρ_2 38 0 0 x1_67.toNatClampNeg ((ρ_2 38 0 0 x1_67.toNatClampNeg) ||| ((1 : Int32) <<< (x2_67 &&& 31)))) 37 0 0 x1_67.toNatClampNeg (((kh_up ρ_2 38 0 0 x1_67.toNatClampNeg ((ρ_2 38 0 0 x1_67.toNatClampNeg) ||| ((1 : Int32) <<< (x2_67 &&& 31)))) 37 0 0 x1_67.toNatClampNeg) ||| ((kh_up ρ_2 38 0 0 x1_67.toNatClampNeg ((ρ_2 38 0 0 x1_67.toNatClampNeg) ||| ((1 : Int32) <<< (x2_67 &&& 31)))) 31 0 0 (((8 : Int32) * ((kh_up ρ_2 38 0 0 x1_67.toNatClampNeg ((ρ_2 38 0 0 x1_67.toNatClampNeg) ||| ((1 : Int32) <<< (x2_67 &&& 31)))) 36 0 0 x1_67.toNatClampNeg)) + x2_67).toNatClampNeg)))) kh_kd37 g_4 dX5_solve_117 ?_
      refine lv_iconst (v := (1 : Int32)) C.1 C.2.1 dX5_solve_118 (by decide) ?_
      refine lv_iand C.1 C.2.1 dX5_solve_119 ?_
      refine lv_iconst (v := (1 : Int32)) C.1 C.2.1 dX5_solve_120 (by decide) ?_
      refine lv_icmp_ne (tgt := 130) C.1 C.2.1 dX5_solve_121 (by decide) (fun c_6 => ?_) (fun c_6 => ?_)
      · have hF := kh_iff hF c_6
        exact wL130 (kh_up (kh_up ρ_2 38 0 0 x1_67.toNatClampNeg ((ρ_2 38 0 0 x1_67.toNatClampNeg) ||| ((1 : Int32) <<< (x2_67 &&& 31)))) 37 0 0 x1_67.toNatClampNeg (((kh_up ρ_2 38 0 0 x1_67.toNatClampNeg ((ρ_2 38 0 0 x1_67.toNatClampNeg) ||| ((1 : Int32) <<< (x2_67 &&& 31)))) 37 0 0 x1_67.toNatClampNeg) ||| ((kh_up ρ_2 38 0 0 x1_67.toNatClampNeg ((ρ_2 38 0 0 x1_67.toNatClampNeg) ||| ((1 : Int32) <<< (x2_67 &&& 31)))) 31 0 0 (((8 : Int32) * ((kh_up ρ_2 38 0 0 x1_67.toNatClampNeg ((ρ_2 38 0 0 x1_67.toNatClampNeg) ||| ((1 : Int32) <<< (x2_67 &&& 31)))) 36 0 0 x1_67.toNatClampNeg)) + x2_67).toNatClampNeg))) x1_67 _ _ _ hF hw hS (kh_sub hl [0, 1] rfl)
      · have hF := kh_ift hF c_6
        refine lv_aload_n C.1 C.2.1 dX5_solve_124 rfl (kh_at hl 0 rfl) ?_
        refine lv_iload_n C.1 C.2.1 dX5_solve_125 rfl (kh_at hl 1 rfl) ?_
        refine lv_iconst (v := (1 : Int32)) C.1 C.2.1 dX5_solve_126 (by decide) ?_
        obtain ⟨ρ_7, h_7, hF⟩ := kh_bd_ok hF
        refine kh_callv (va_runV (As := [.int x1_67, .int (1 : Int32)]) (rest := []) ⟨C.1, C.2.1, C.2.2.1, C.2.2.2.1, C.2.2.2.2.1⟩ (c_X5_leaves l D ca A ad (kh_up (kh_up ρ_2 38 0 0 x1_67.toNatClampNeg ((ρ_2 38 0 0 x1_67.toNatClampNeg) ||| ((1 : Int32) <<< (x2_67 &&& 31)))) 37 0 0 x1_67.toNatClampNeg (((kh_up ρ_2 38 0 0 x1_67.toNatClampNeg ((ρ_2 38 0 0 x1_67.toNatClampNeg) ||| ((1 : Int32) <<< (x2_67 &&& 31)))) 37 0 0 x1_67.toNatClampNeg) ||| ((kh_up ρ_2 38 0 0 x1_67.toNatClampNeg ((ρ_2 38 0 0 x1_67.toNatClampNeg) ||| ((1 : Int32) <<< (x2_67 &&& 31)))) 31 0 0 (((8 : Int32) * ((kh_up ρ_2 38 0 0 x1_67.toNatClampNeg ((ρ_2 38 0 0 x1_67.toNatClampNeg) ||| ((1 : Int32) <<< (x2_67 &&& 31)))) 36 0 0 x1_67.toNatClampNeg)) + x2_67).toNatClampNeg))) x1_67 (1 : Int32) h_7) (cwV 2 C.2.2.2.2.1 gX5_solve_X5_leaves rfl rfl rfl (by decide +kernel) ⟨Nat.le_of_ble_eq_true rfl, Nat.le_of_ble_eq_true rfl⟩) (kh_preV C hw hS 15 (kh_z15 (kh_up (kh_up ρ_2 38 0 0 x1_67.toNatClampNeg ((ρ_2 38 0 0 x1_67.toNatClampNeg) ||| ((1 : Int32) <<< (x2_67 &&& 31)))) 37 0 0 x1_67.toNatClampNeg (((kh_up ρ_2 38 0 0 x1_67.toNatClampNeg ((ρ_2 38 0 0 x1_67.toNatClampNeg) ||| ((1 : Int32) <<< (x2_67 &&& 31)))) 37 0 0 x1_67.toNatClampNeg) ||| ((kh_up ρ_2 38 0 0 x1_67.toNatClampNeg ((ρ_2 38 0 0 x1_67.toNatClampNeg) ||| ((1 : Int32) <<< (x2_67 &&& 31)))) 31 0 0 (((8 : Int32) * ((kh_up ρ_2 38 0 0 x1_67.toNatClampNeg ((ρ_2 38 0 0 x1_67.toNatClampNeg) ||| ((1 : Int32) <<< (x2_67 &&& 31)))) 36 0 0 x1_67.toNatClampNeg)) + x2_67).toNatClampNeg)))) kh_kd15 rfl) rfl rfl hl.1.1 rfl (lv_room (kh_sum kh_an (Nat.le_of_ble_eq_true rfl))) dX5_solve_127 ⟨Nat.le_of_ble_eq_true rfl, Nat.le_of_ble_eq_true rfl⟩) hS h_7 (fun H locs hw hS => ?_)
        exact wL130 ρ_7 x1_67 _ _ _ hF hw hS (kh_sub hl [0, 1] rfl)
    · have hF := kh_iff hF c_3
      refine lv_iconst (v := (0 : Int32)) C.1 C.2.1 dX5_solve_73 (by decide) ?_
      exact W.iret (v := (0 : Int32)) C.1 C.2.1 hr (fun t ht hW => ⟨⟨(0 : Int32), ρ_2, rfl, hF0.trans hF.symm, kh_bk ht hw⟩, hS.F ht⟩) hS.2.2 dX5_solve_74
  have wL62 : ∀ (ρ_62 : kh_S) (x1_62 : Int32) (x2_62 : Int32) (H : Heap) (locs : List Loc) (ls : Array Slot), f_X5_solve_L62 ρ_62 x1_62 x2_62 = some q0 → kh_w D ca A ad ρ_62 H → va_S A s.heap H locs → kh_lv ls 4 [(0, .ref (ad 15 0)), (1, .int x1_62), (2, .int x2_62)] → W p l e (headSpec wsX5_solve ({ frames := 2, cells := 0, slots := 0, locals := 44 } : Room)).room s m ([.ref (ad 15 0), .int x1, .int x2]).toArray below meth c H locs 0 0 (MQ below (kh_Qi D ca A ad (f_X5_solve ρ x1 x2)) ([.ref (ad 15 0), .int x1, .int x2]).toArray s 0 0 A) (F0 m 62 ls [.ref (ad 15 0)]) := by
    intro ρ_62 x1_62 x2_62 H locs ls hF hw hS hl
    unfold f_X5_solve_L62 at hF
    refine lv_iconst (v := (2 : Int32)) C.1 C.2.1 dX5_solve_62 (by decide) ?_
    refine lv_goto (tgt := 67) C.1 C.2.1 dX5_solve_63 (by decide) ?_
    exact wL67 ρ_62 x1_62 x2_62 (2 : Int32) _ _ _ hF hw hS (kh_sub hl [0, 1, 2] rfl)
  have wL34 : ∀ (ρ_34 : kh_S) (x1_34 : Int32) (x2_34 : Int32) (t0_34 : Int32) (H : Heap) (locs : List Loc) (ls : Array Slot), f_X5_solve_L34 ρ_34 x1_34 x2_34 t0_34 = some q0 → kh_w D ca A ad ρ_34 H → va_S A s.heap H locs → kh_lv ls 4 [(0, .ref (ad 15 0)), (1, .int x1_34), (2, .int x2_34)] → W p l e (headSpec wsX5_solve ({ frames := 2, cells := 0, slots := 0, locals := 44 } : Room)).room s m ([.ref (ad 15 0), .int x1, .int x2]).toArray below meth c H locs 0 0 (MQ below (kh_Qi D ca A ad (f_X5_solve ρ x1 x2)) ([.ref (ad 15 0), .int x1, .int x2]).toArray s 0 0 A) (F0 m 34 ls [.int t0_34]) := by
    intro ρ_34 x1_34 x2_34 t0_34 H locs ls hF hw hS hl
    unfold f_X5_solve_L34 at hF
    refine kh_istore_n (lv' := [(3, .int t0_34), (0, .ref (ad 15 0)), (1, .int x1_34), (2, .int x2_34)]) C.1 C.2.1 dX5_solve_34 rfl hl (by decide) rfl (fun ls hl => ?_)
    refine lv_aload_n C.1 C.2.1 dX5_solve_35 rfl (kh_at hl 1 rfl) ?_
    refine lv_iload_n C.1 C.2.1 dX5_solve_36 rfl (kh_at hl 0 rfl) ?_
    refine lv_if_ne (tgt := 44) C.1 C.2.1 dX5_solve_37 (by decide) (fun c_8 => ?_) (fun c_8 => ?_)
    · have hF := kh_iff hF c_8
      refine lv_aload_n C.1 C.2.1 dX5_solve_44 rfl (kh_at hl 1 rfl) ?_
      refine kh_get C hw 15 15 rfl (kh_z15 ρ_34) kh_kd15 (Cn := RX5) (T := TX5) (N := 33) rfl (Nat.le_of_ble_eq_true rfl) k_40 (kf_15_15 ad ρ_34 0) dX5_solve_45 ?_
      refine lv_iload_n C.1 C.2.1 dX5_solve_48 rfl (kh_at hl 2 rfl) ?_
      obtain ⟨g_9, hF⟩ := kh_gd_ok hF
      refine kh_iald C hw 35 rfl (kh_z35 ρ_34) kh_kd35 g_9 dX5_solve_49 ?_
      refine lv_if_ne (tgt := 62) C.1 C.2.1 dX5_solve_50 (by decide) (fun c_10 => ?_) (fun c_10 => ?_)
      · have hF := kh_iff hF c_10
        exact wL62 ρ_34 x1_34 x2_34 _ _ _ hF hw hS (kh_sub hl [1, 2, 3] rfl)
      · have hF := kh_ift hF c_10
        refine lv_aload_n C.1 C.2.1 dX5_solve_53 rfl (kh_at hl 1 rfl) ?_
        refine lv_iload_n C.1 C.2.1 dX5_solve_54 rfl (kh_at hl 2 rfl) ?_
        refine lv_iload_n C.1 C.2.1 dX5_solve_55 rfl (kh_at hl 3 rfl) ?_
        obtain ⟨r_11, h_11, hF⟩ := kh_bd_ok hF
        refine kh_calli (va_runV (As := [.int x1_34, .int x2_34]) (rest := [.ref (ad 15 0)]) ⟨C.1, C.2.1, C.2.2.1, C.2.2.2.1, C.2.2.2.2.1⟩ (c_X5_maySolve l D ca A ad ρ_34 x1_34 x2_34 h_11) (cwV 2 C.2.2.2.2.1 gX5_solve_X5_maySolve rfl rfl rfl (by decide +kernel) ⟨Nat.le_of_ble_eq_true rfl, Nat.le_of_ble_eq_true rfl⟩) (kh_preV C hw hS 15 (kh_z15 ρ_34) kh_kd15 rfl) rfl rfl hl.1.1 rfl (lv_room (kh_sum (kh_ac rfl kh_an) (Nat.le_of_ble_eq_true rfl))) dX5_solve_56 ⟨Nat.le_of_ble_eq_true rfl, Nat.le_of_ble_eq_true rfl⟩) hS (kh_mp h_11) (fun H locs hw hS => ?_)
        refine lv_if_ne (tgt := 66) C.1 C.2.1 dX5_solve_59 (by decide) (fun c_12 => ?_) (fun c_12 => ?_)
        · have hF := kh_iff hF c_12
          refine lv_iconst (v := (0 : Int32)) C.1 C.2.1 dX5_solve_66 (by decide) ?_
          exact wL67 ρ_34 x1_34 x2_34 (0 : Int32) _ _ _ hF hw hS (kh_sub hl [1, 2, 3] rfl)
        · have hF := kh_ift hF c_12
          exact wL62 ρ_34 x1_34 x2_34 _ _ _ hF hw hS (kh_sub hl [1, 2, 3] rfl)
    · have hF := kh_ift hF c_8
      refine lv_iconst (v := (1 : Int32)) C.1 C.2.1 dX5_solve_40 (by decide) ?_
      refine lv_goto (tgt := 67) C.1 C.2.1 dX5_solve_41 (by decide) ?_
      exact wL67 ρ_34 x1_34 x2_34 (1 : Int32) _ _ _ hF hw hS (kh_sub hl [1, 2, 3] rfl)
  have wL33 : ∀ (ρ_33 : kh_S) (x1_33 : Int32) (x2_33 : Int32) (H : Heap) (locs : List Loc) (ls : Array Slot), f_X5_solve_L33 ρ_33 x1_33 x2_33 = some q0 → kh_w D ca A ad ρ_33 H → va_S A s.heap H locs → kh_lv ls 4 [(0, .ref (ad 15 0)), (1, .int x1_33), (2, .int x2_33)] → W p l e (headSpec wsX5_solve ({ frames := 2, cells := 0, slots := 0, locals := 44 } : Room)).room s m ([.ref (ad 15 0), .int x1, .int x2]).toArray below meth c H locs 0 0 (MQ below (kh_Qi D ca A ad (f_X5_solve ρ x1 x2)) ([.ref (ad 15 0), .int x1, .int x2]).toArray s 0 0 A) (F0 m 33 ls []) := by
    intro ρ_33 x1_33 x2_33 H locs ls hF hw hS hl
    unfold f_X5_solve_L33 at hF
    refine lv_iconst (v := (0 : Int32)) C.1 C.2.1 dX5_solve_33 (by decide) ?_
    exact wL34 ρ_33 x1_33 x2_33 (0 : Int32) _ _ _ hF hw hS (kh_sub hl [0, 1, 2] rfl)
  refine lv_aload_n C.1 C.2.1 dX5_solve_0 rfl (kh_at hl 0 rfl) ?_
  refine lv_iload_n C.1 C.2.1 dX5_solve_1 rfl (kh_at hl 1 rfl) ?_
  obtain ⟨r_13, h_13, hF⟩ := kh_bd_ok hF
  refine kh_calli (va_runV (As := [.int x1]) (rest := []) ⟨C.1, C.2.1, C.2.2.1, C.2.2.2.1, C.2.2.2.2.1⟩ (c_X5_isGroup l D ca A ad ρ x1 h_13) (cwV 1 C.2.2.2.2.1 gX5_solve_X5_isGroup rfl rfl rfl (by decide +kernel) ⟨Nat.le_of_ble_eq_true rfl, Nat.le_of_ble_eq_true rfl⟩) (kh_preV C hw hS 15 (kh_z15 ρ) kh_kd15 rfl) rfl rfl hl.1.1 rfl (lv_room (kh_sum kh_an (Nat.le_of_ble_eq_true rfl))) dX5_solve_2 ⟨Nat.le_of_ble_eq_true rfl, Nat.le_of_ble_eq_true rfl⟩) hS (kh_mp h_13) (fun H locs hw hS => ?_)
  refine lv_if_eq (tgt := 33) C.1 C.2.1 dX5_solve_5 (by decide) (fun c_14 => ?_) (fun c_14 => ?_)
  · have hF := kh_ift hF c_14
    exact wL33 ρ x1 x2 _ _ _ hF hw hS (kh_sub hl [0, 1, 2] rfl)
  · have hF := kh_iff hF c_14
    refine lv_iload_n C.1 C.2.1 dX5_solve_8 rfl (kh_at hl 2 rfl) ?_
    refine lv_iconst (v := (0 : Int32)) C.1 C.2.1 dX5_solve_9 (by decide) ?_
    refine lv_aload_n C.1 C.2.1 dX5_solve_10 rfl (kh_at hl 0 rfl) ?_
    refine kh_get C hw 15 5 rfl (kh_z15 ρ) kh_kd15 (Cn := RX5) (T := TX5) (N := 33) rfl (Nat.le_of_ble_eq_true rfl) k_13 (kf_15_5 ad ρ 0) dX5_solve_11 ?_
    refine lv_aload_n C.1 C.2.1 dX5_solve_14 rfl (kh_at hl 0 rfl) ?_
    refine kh_get C hw 15 16 rfl (kh_z15 ρ) kh_kd15 (Cn := RX5) (T := TX5) (N := 33) rfl (Nat.le_of_ble_eq_true rfl) k_43 (kf_15_16 ad ρ 0) dX5_solve_15 ?_
    refine lv_iload_n C.1 C.2.1 dX5_solve_18 rfl (kh_at hl 1 rfl) ?_
    obtain ⟨g_15, hF⟩ := kh_gd_ok hF
    refine kh_iald C hw 36 rfl (kh_z36 ρ) kh_kd36 g_15 dX5_solve_19 ?_
    obtain ⟨g_16, hF⟩ := kh_gd_ok hF
    refine kh_iald C hw 25 rfl (kh_z25 ρ) kh_kd25 g_16 dX5_solve_20 ?_
    refine lv_iconst (v := (1 : Int32)) C.1 C.2.1 dX5_solve_21 (by decide) ?_
    refine lv_isub C.1 C.2.1 dX5_solve_22 ?_
    obtain ⟨r_17, h_17, hF⟩ := kh_bd_ok hF
    refine kh_calli (va_runS (As := [.int x2, .int (0 : Int32), .int ((ρ 25 0 0 (ρ 36 0 0 x1.toNatClampNeg).toNatClampNeg) - (1 : Int32))]) (rest := []) ⟨C.1, C.2.1, C.2.2.1, C.2.2.2.1, C.2.2.2.2.1⟩ (c_X5_in l D ca A ad ρ x2 (0 : Int32) ((ρ 25 0 0 (ρ 36 0 0 x1.toNatClampNeg).toNatClampNeg) - (1 : Int32)) h_17) (va_cwS 3 C.2.2.2.2.1 gX5_solve_X5_in rfl rfl rfl (by decide +kernel) ⟨Nat.le_of_ble_eq_true rfl, Nat.le_of_ble_eq_true rfl⟩) (kh_preS C hw hS) rfl rfl hl.1.1 rfl (lv_room (kh_sum kh_an (Nat.le_of_ble_eq_true rfl))) dX5_solve_23 ⟨Nat.le_of_ble_eq_true rfl, Nat.le_of_ble_eq_true rfl⟩) hS (kh_mp h_17) (fun H locs hw hS => ?_)
    refine lv_if_eq (tgt := 33) C.1 C.2.1 dX5_solve_26 (by decide) (fun c_18 => ?_) (fun c_18 => ?_)
    · have hF := kh_ift hF c_18
      exact wL33 ρ x1 x2 _ _ _ hF hw hS (kh_sub hl [0, 1, 2] rfl)
    · have hF := kh_iff hF c_18
      refine lv_iconst (v := (1 : Int32)) C.1 C.2.1 dX5_solve_29 (by decide) ?_
      refine lv_goto (tgt := 34) C.1 C.2.1 dX5_solve_30 (by decide) ?_
      exact wL34 ρ x1 x2 (1 : Int32) _ _ _ hF hw hS (kh_sub hl [0, 1, 2] rfl)

def f_X5_count_L20 (ρ : kh_S) (x1_20 : Int32) : Option (Int32) := some x1_20
def f_X5_count_B4 (ρ : kh_S) (y1_4 : Int32) (y2_4 : Int32) : Option ((Int32 × Int32) ⊕ (Int32)) := if y2_4 = 0 then some (.inr y1_4) else some (.inl (y1_4 + (1 : Int32), y2_4 &&& (y2_4 - (1 : Int32))))
def f_X5_count_A4 (ρ : kh_S) : (Int32) → Option (Int32) := (fun u : Int32 => f_X5_count_L20 ρ u)
def f_X5_count (ρ : kh_S) (x0 : Int32) : Option (Int32) := kh_bd (kh_lp (fun a : Int32 × Int32 => f_X5_count_B4 ρ a.1 a.2) 9999 ((0 : Int32), x0)) (f_X5_count_A4 ρ)
set_option maxHeartbeats 4000000 in
set_option maxRecDepth 100000 in
theorem c_X5_count (l : Launch) (D : va_G) (ca : Nat → ClassId) (A : Nat → Prop) (ad : Nat → Nat → Nat) (ρ : kh_S) (x0 : Int32) {q0 : Int32} (hF0 : f_X5_count ρ x0 = some q0) : Met l yX5_count wsX5_count ({ frames := 0, cells := 0, slots := 0, locals := 0 } : Room) (va_Pc [.int x0] (kh_I D ca A ad ρ)) (kh_Qi D ca A ad (kh_pu (f_X5_count ρ x0) ρ)) 0 0 A := by
  refine Met.ofW (cc := cX5_count) (maxL := 3) (ret := (some .int)) (by decide) rfl ?_
  intro p e s m args below meth c s₁ B hml hv
  obtain ⟨rfl, hK, hw, hA⟩ := hv
  have C : kh_C p s m ([.int x0]).toArray c cX5_count 3 RX5 wsX5_count D ca A := ⟨B.exec, B.bytes, hml, findClass_of_methodNamed B.named, atoms_spec (ws := wsX5_count) B.pre, hK, hA⟩
  have hr := B.returns
  have hlocks := B.notSynchronized
  have hS : va_S A s.heap s.heap [] := va_S.rf
  have hl := kh_entry ([.int x0]) (n := 3) (kh_ac rfl kh_an) (Nat.le_of_ble_eq_true rfl)
  rw [lg_entry_eq]
  generalize (lg_sl ([.int x0]) ++ List.replicate (3 - (lg_sl ([.int x0])).length) Slot.unset).toArray = ls at hl ⊢
  have hl : kh_lv ls 3 [(0, .int x0)] := hl
  have hF := hF0
  unfold f_X5_count at hF
  have wL20 : ∀ (x1_20 : Int32) (H : Heap) (locs : List Loc) (ls : Array Slot), f_X5_count_L20 ρ x1_20 = some q0 → kh_w D ca A ad ρ H → va_S A s.heap H locs → kh_lv ls 3 [(1, .int x1_20)] → W p l e (headSpec wsX5_count ({ frames := 0, cells := 0, slots := 0, locals := 0 } : Room)).room s m ([.int x0]).toArray below meth c H locs 0 0 (MQ below (kh_Qi D ca A ad (kh_pu (f_X5_count ρ x0) ρ)) ([.int x0]).toArray s 0 0 A) (F0 m 20 ls []) := by
    intro x1_20 H locs ls hF hw hS hl
    unfold f_X5_count_L20 at hF
    refine lv_iload_n C.1 C.2.1 dX5_count_20 rfl (kh_at hl 0 rfl) ?_
    exact W.iret (v := x1_20) C.1 C.2.1 hr (fun t ht hW => ⟨⟨x1_20, ρ, rfl, kh_mp (hF0.trans hF.symm), kh_bk ht hw⟩, hS.F ht⟩) hS.2.2 dX5_count_21
  have wB4 : ∀  (b : Int32), f_X5_count_A4 ρ b = some q0 → ∀ (n : Nat) (y1_4 : Int32) (y2_4 : Int32) (H : Heap) (locs : List Loc) (ls : Array Slot), kh_lp (fun a : Int32 × Int32 => f_X5_count_B4 ρ a.1 a.2) n (y1_4, y2_4) = some b → kh_w D ca A ad ρ H → va_S A s.heap H locs → kh_lv ls 3 [(1, .int y1_4), (2, .int y2_4)] → W p l e (headSpec wsX5_count ({ frames := 0, cells := 0, slots := 0, locals := 0 } : Room)).room s m ([.int x0]).toArray below meth c H locs 0 0 (MQ below (kh_Qi D ca A ad (kh_pu (f_X5_count ρ x0) ρ)) ([.int x0]).toArray s 0 0 A) (F0 m 4 ls []) := by
    intro  b hA_4 n
    induction n with
    | zero => intro y1_4 y2_4 H locs ls h9; exact absurd h9 (fun z => nomatch z)
    | succ n ih_4 =>
      intro y1_4 y2_4 H locs ls hb_4 hw hS hl
      obtain ⟨q_4, hF, hb_4⟩ := kh_lp_ok hb_4
      have hF : f_X5_count_B4 ρ y1_4 y2_4 = some q_4 := hF
      unfold f_X5_count_B4 at hF
      refine lv_iload_n C.1 C.2.1 dX5_count_4 rfl (kh_at hl 1 rfl) ?_
      refine lv_if_eq (tgt := 20) C.1 C.2.1 dX5_count_5 (by decide) (fun c_1 => ?_) (fun c_1 => ?_)
      · have hF := kh_ift hF c_1
        have e9 := Option.some.inj hF
        rcases hb_4 with ⟨a9, h8, h9⟩ | h8
        · exact absurd (e9.trans h8) (fun z => nomatch z)
        have h7 := Sum.inr.inj (e9.trans h8)
        have hF := (congrArg (f_X5_count_A4 ρ) h7).trans hA_4
        exact wL20 y1_4 _ _ _ hF hw hS (kh_sub hl [0] rfl)
      · have hF := kh_iff hF c_1
        refine kh_iinc (v := y1_4 + (1 : Int32)) (lv' := [(1, .int (y1_4 + (1 : Int32))), (2, .int y2_4)]) C.1 C.2.1 dX5_count_8 hl (k := 0) rfl (by rfl) (by decide) rfl (fun ls hl => ?_)
        refine lv_iload_n C.1 C.2.1 dX5_count_11 rfl (kh_at hl 1 rfl) ?_
        refine lv_iload_n C.1 C.2.1 dX5_count_12 rfl (kh_at hl 1 rfl) ?_
        refine lv_iconst (v := (1 : Int32)) C.1 C.2.1 dX5_count_13 (by decide) ?_
        refine lv_isub C.1 C.2.1 dX5_count_14 ?_
        refine lv_iand C.1 C.2.1 dX5_count_15 ?_
        refine kh_istore_n (lv' := [(2, .int (y2_4 &&& (y2_4 - (1 : Int32)))), (1, .int (y1_4 + (1 : Int32)))]) C.1 C.2.1 dX5_count_16 rfl hl (by decide) rfl (fun ls hl => ?_)
        refine lv_goto (tgt := 4) C.1 C.2.1 dX5_count_17 (by decide) ?_
        have e9 := Option.some.inj hF
        rcases hb_4 with ⟨a9, h8, h9⟩ | h8
        · have h7 := Sum.inl.inj (e9.trans h8)
          subst h7
          exact ih_4 _ _ _ _ _ h9 hw hS (kh_sub hl [1, 0] rfl)
        · exact absurd (e9.trans h8) (fun z => nomatch z)
  refine lv_iconst (v := (0 : Int32)) C.1 C.2.1 dX5_count_0 (by decide) ?_
  refine kh_istore_n (lv' := [(1, .int (0 : Int32)), (0, .int x0)]) C.1 C.2.1 dX5_count_1 rfl hl (by decide) rfl (fun ls hl => ?_)
  refine lv_iload_n C.1 C.2.1 dX5_count_2 rfl (kh_at hl 1 rfl) ?_
  refine kh_istore_n (lv' := [(2, .int x0), (1, .int (0 : Int32)), (0, .int x0)]) C.1 C.2.1 dX5_count_3 rfl hl (by decide) rfl (fun ls hl => ?_)
  obtain ⟨b_4, hb_4, hF⟩ := kh_bd_ok hF
  exact wB4  b_4 hF _ (0 : Int32) x0 _ _ _ hb_4 hw hS (kh_sub hl [1, 0] rfl)

def f_X5_isWay_L173 (ρ : kh_S) (t0_173 : Int32) : Option (Int32) := kh_gd (kh_b t0_173) (some t0_173)
def f_X5_isWay_L172 (ρ : kh_S) : Option (Int32) := f_X5_isWay_L173 ρ (0 : Int32)
def f_X5_isWay_L144 (ρ : kh_S) (x1_144 : Int32) (x2_144 : Int32) (x3_144 : Int32) (x4_144 : Int32) : Option (Int32) := if x4_144 = x2_144 then kh_gd (kh_in x1_144 30) (kh_bd (f_X5_heldBy ρ x3_144 (ρ 37 0 0 x1_144.toNatClampNeg) x2_144) (fun r_4 => if (r_4 &&& (1 : Int32)) = (1 : Int32) then f_X5_isWay_L173 ρ (1 : Int32) else f_X5_isWay_L172 ρ)) else f_X5_isWay_L172 ρ
def f_X5_isWay_L141 (ρ : kh_S) (x1_c13 : Int32) (x2_c13 : Int32) (x3_c13 : Int32) (x4_141 : Int32) (x5_141 : Int32) : Option ((Int32 × Int32) ⊕ (Int32)) := some (.inl (x4_141, x5_141))
def f_X5_isWay_L132 (ρ : kh_S) (x1_c13 : Int32) (x2_c13 : Int32) (x3_c13 : Int32) (x5_c42 : Int32) (x6_c42 : Int32) (x7_132 : Int32) (t0_132 : Int32) (t1_132 : Int32) : Option ((Int32 × Int32) ⊕ (Int32)) := some (.inl (t0_132 ||| t1_132, x7_132 + (1 : Int32)))
def f_X5_isWay_L115 (ρ : kh_S) (x1_c13 : Int32) (x2_c13 : Int32) (x3_c13 : Int32) (x5_c42 : Int32) (x6_c42 : Int32) (x4_115 : Int32) (x7_115 : Int32) (t0_115 : Int32) : Option ((Int32 × Int32) ⊕ (Int32)) := if t0_115 = 0 then f_X5_isWay_L132 ρ x1_c13 x2_c13 x3_c13 x5_c42 x6_c42 x7_115 x4_115 (0 : Int32) else f_X5_isWay_L132 ρ x1_c13 x2_c13 x3_c13 x5_c42 x6_c42 x7_115 x4_115 ((1 : Int32) <<< (x7_115 &&& 31))
def f_X5_isWay_L114 (ρ : kh_S) (x1_c13 : Int32) (x2_c13 : Int32) (x3_c13 : Int32) (x5_c42 : Int32) (x6_c42 : Int32) (x4_114 : Int32) (x7_114 : Int32) : Option ((Int32 × Int32) ⊕ (Int32)) := f_X5_isWay_L115 ρ x1_c13 x2_c13 x3_c13 x5_c42 x6_c42 x4_114 x7_114 (0 : Int32)
def f_X5_isWay_B42 (ρ : kh_S) (x1_c13 : Int32) (x2_c13 : Int32) (x3_c13 : Int32) (x5_c42 : Int32) (x6_c42 : Int32) (y4_42 : Int32) (y7_42 : Int32) : Option ((Int32 × Int32) ⊕ (Int32)) := kh_gd (kh_in x3_c13 4) (if (ρ 25 0 0 x3_c13.toNatClampNeg) ≤ y7_42 then some (.inr y4_42) else if ((x2_c13 >>> (y7_42 &&& 31)) &&& (1 : Int32)) = (1 : Int32) then kh_gd (kh_in x1_c13 30) (if (((ρ 38 0 0 x1_c13.toNatClampNeg) >>> (y7_42 &&& 31)) &&& (1 : Int32)) = 0 then kh_bd (f_X5_isOut ρ (((8 : Int32) * x3_c13) + y7_42)) (fun r_12 => if r_12 = 0 then kh_gd (kh_in (((8 : Int32) * x3_c13) + y7_42) 32) (if ((ρ 30 0 0 (((8 : Int32) * x3_c13) + y7_42).toNatClampNeg) &&& (x6_c42 ^^^ (-1 : Int32))) = 0 then f_X5_isWay_L115 ρ x1_c13 x2_c13 x3_c13 x5_c42 x6_c42 y4_42 y7_42 (1 : Int32) else f_X5_isWay_L114 ρ x1_c13 x2_c13 x3_c13 x5_c42 x6_c42 y4_42 y7_42) else f_X5_isWay_L114 ρ x1_c13 x2_c13 x3_c13 x5_c42 x6_c42 y4_42 y7_42) else f_X5_isWay_L114 ρ x1_c13 x2_c13 x3_c13 x5_c42 x6_c42 y4_42 y7_42) else f_X5_isWay_L114 ρ x1_c13 x2_c13 x3_c13 x5_c42 x6_c42 y4_42 y7_42)
def f_X5_isWay_A42 (ρ : kh_S) (x1_c13 : Int32) (x2_c13 : Int32) (x3_c13 : Int32) (x5_c42 : Int32) (x6_c42 : Int32) : (Int32) → Option ((Int32 × Int32) ⊕ (Int32)) := (fun u : Int32 => f_X5_isWay_L141 ρ x1_c13 x2_c13 x3_c13 u x5_c42)
def f_X5_isWay_B13 (ρ : kh_S) (x1_c13 : Int32) (x2_c13 : Int32) (x3_c13 : Int32) (y4_13 : Int32) (y5_13 : Int32) : Option ((Int32 × Int32) ⊕ (Int32)) := if y4_13 = y5_13 then some (.inr y4_13) else kh_gd (kh_in x1_c13 30) (kh_bd (f_X5_heldBy ρ x3_c13 (ρ 37 0 0 x1_c13.toNatClampNeg) y4_13) (fun r_18 => kh_bd (kh_lp (fun a : Int32 × Int32 => f_X5_isWay_B42 ρ x1_c13 x2_c13 x3_c13 y4_13 r_18 a.1 a.2) 9999 (y4_13, (0 : Int32))) (f_X5_isWay_A42 ρ x1_c13 x2_c13 x3_c13 y4_13 r_18)))
def f_X5_isWay_A13 (ρ : kh_S) (x1_c13 : Int32) (x2_c13 : Int32) (x3_c13 : Int32) : (Int32) → Option (Int32) := (fun u : Int32 => f_X5_isWay_L144 ρ x1_c13 x2_c13 x3_c13 u)
def f_X5_isWay (ρ : kh_S) (x1 : Int32) (x2 : Int32) : Option (Int32) := kh_gd (kh_in x1 30) (kh_bd (kh_lp (fun a : Int32 × Int32 => f_X5_isWay_B13 ρ x1 x2 (ρ 36 0 0 x1.toNatClampNeg) a.1 a.2) 9999 ((0 : Int32), (-1 : Int32))) (f_X5_isWay_A13 ρ x1 x2 (ρ 36 0 0 x1.toNatClampNeg)))
set_option maxHeartbeats 4000000 in
set_option maxRecDepth 100000 in
theorem c_X5_isWay (l : Launch) (D : va_G) (ca : Nat → ClassId) (A : Nat → Prop) (ad : Nat → Nat → Nat) (ρ : kh_S) (x1 : Int32) (x2 : Int32) {q0 : Int32} (hF0 : f_X5_isWay ρ x1 x2 = some q0) : Met l yX5_isWay wsX5_isWay ({ frames := 1, cells := 0, slots := 0, locals := 25 } : Room) (va_Pc [.ref (ad 15 0), .int x1, .int x2] (kh_I D ca A ad ρ)) (kh_Qi D ca A ad (kh_pu (f_X5_isWay ρ x1 x2) ρ)) 0 0 A := by
  refine Met.ofW (cc := cX5_isWay) (maxL := 10) (ret := (some .boolean)) (by decide) rfl ?_
  intro p e s m args below meth c s₁ B hml hv
  obtain ⟨rfl, hK, hw, hA⟩ := hv
  have C : kh_C p s m ([.ref (ad 15 0), .int x1, .int x2]).toArray c cX5_isWay 10 RX5 wsX5_isWay D ca A := ⟨B.exec, B.bytes, hml, findClass_of_methodNamed B.named, atoms_spec (ws := wsX5_isWay) B.pre, hK, hA⟩
  have hr := B.returns
  have hlocks := B.notSynchronized
  have hS : va_S A s.heap s.heap [] := va_S.rf
  have hl := kh_entry ([.ref (ad 15 0), .int x1, .int x2]) (n := 10) (kh_ac rfl (kh_ac rfl (kh_ac rfl kh_an))) (Nat.le_of_ble_eq_true rfl)
  rw [lg_entry_eq]
  generalize (lg_sl ([.ref (ad 15 0), .int x1, .int x2]) ++ List.replicate (10 - (lg_sl ([.ref (ad 15 0), .int x1, .int x2])).length) Slot.unset).toArray = ls at hl ⊢
  have hl : kh_lv ls 10 [(0, .ref (ad 15 0)), (1, .int x1), (2, .int x2)] := hl
  have k_46 := C.2.2.2.2.1 (.fieldLink RX5 46 "KeylessHallModel" "holds" "[I") (by decide +kernel)
  have k_13 := C.2.2.2.2.1 (.fieldLink RX5 13 "KeylessHallModel" "many" "[I") (by decide +kernel)
  have k_49 := C.2.2.2.2.1 (.fieldLink RX5 49 "KeylessHallModel" "solved" "[I") (by decide +kernel)
  have k_28 := C.2.2.2.2.1 (.fieldLink RX5 28 "KeylessHallModel" "needs" "[I") (by decide +kernel)
  have k_43 := C.2.2.2.2.1 (.fieldLink RX5 43 "KeylessHallModel" "roomOf" "[I") (by decide +kernel)
  have hF := hF0
  unfold f_X5_isWay at hF
  have wL173 : ∀ (t0_173 : Int32) (H : Heap) (locs : List Loc) (ls : Array Slot), f_X5_isWay_L173 ρ t0_173 = some q0 → kh_w D ca A ad ρ H → va_S A s.heap H locs → kh_lv ls 10 [] → W p l e (headSpec wsX5_isWay ({ frames := 1, cells := 0, slots := 0, locals := 25 } : Room)).room s m ([.ref (ad 15 0), .int x1, .int x2]).toArray below meth c H locs 0 0 (MQ below (kh_Qi D ca A ad (kh_pu (f_X5_isWay ρ x1 x2) ρ)) ([.ref (ad 15 0), .int x1, .int x2]).toArray s 0 0 A) (F0 m 173 ls [.int t0_173]) := by
    intro t0_173 H locs ls hF hw hS hl
    unfold f_X5_isWay_L173 at hF
    obtain ⟨g_1, hF⟩ := kh_gd_ok hF
    exact W.zret (v := t0_173) (ty := .boolean) C.1 C.2.1 hr (kh_b_ok g_1).1 (fun t ht hW => ⟨⟨t0_173, ρ, rfl, kh_mp (hF0.trans hF.symm), kh_bk ht hw⟩, hS.F ht⟩) hS.2.2 dX5_isWay_173
  have wL172 : ∀ (H : Heap) (locs : List Loc) (ls : Array Slot), f_X5_isWay_L172 ρ = some q0 → kh_w D ca A ad ρ H → va_S A s.heap H locs → kh_lv ls 10 [] → W p l e (headSpec wsX5_isWay ({ frames := 1, cells := 0, slots := 0, locals := 25 } : Room)).room s m ([.ref (ad 15 0), .int x1, .int x2]).toArray below meth c H locs 0 0 (MQ below (kh_Qi D ca A ad (kh_pu (f_X5_isWay ρ x1 x2) ρ)) ([.ref (ad 15 0), .int x1, .int x2]).toArray s 0 0 A) (F0 m 172 ls []) := by
    intro  H locs ls hF hw hS hl
    unfold f_X5_isWay_L172 at hF
    refine lv_iconst (v := (0 : Int32)) C.1 C.2.1 dX5_isWay_172 (by decide) ?_
    exact wL173 (0 : Int32) _ _ _ hF hw hS (kh_sub hl [] rfl)
  have wL144 : ∀ (x1_144 : Int32) (x2_144 : Int32) (x3_144 : Int32) (x4_144 : Int32) (H : Heap) (locs : List Loc) (ls : Array Slot), f_X5_isWay_L144 ρ x1_144 x2_144 x3_144 x4_144 = some q0 → kh_w D ca A ad ρ H → va_S A s.heap H locs → kh_lv ls 10 [(0, .ref (ad 15 0)), (1, .int x1_144), (2, .int x2_144), (3, .int x3_144), (4, .int x4_144)] → W p l e (headSpec wsX5_isWay ({ frames := 1, cells := 0, slots := 0, locals := 25 } : Room)).room s m ([.ref (ad 15 0), .int x1, .int x2]).toArray below meth c H locs 0 0 (MQ below (kh_Qi D ca A ad (kh_pu (f_X5_isWay ρ x1 x2) ρ)) ([.ref (ad 15 0), .int x1, .int x2]).toArray s 0 0 A) (F0 m 144 ls []) := by
    intro x1_144 x2_144 x3_144 x4_144 H locs ls hF hw hS hl
    unfold f_X5_isWay_L144 at hF
    refine lv_iload C.1 C.2.1 dX5_isWay_144 (kh_at hl 4 rfl) ?_
    refine lv_iload_n C.1 C.2.1 dX5_isWay_146 rfl (kh_at hl 2 rfl) ?_
    refine lv_icmp_ne (tgt := 172) C.1 C.2.1 dX5_isWay_147 (by decide) (fun c_2 => ?_) (fun c_2 => ?_)
    · have hF := kh_iff hF c_2
      exact wL172  _ _ _ hF hw hS (kh_sub hl [] rfl)
    · have hF := kh_ift hF c_2
      refine lv_aload_n C.1 C.2.1 dX5_isWay_150 rfl (kh_at hl 0 rfl) ?_
      refine lv_iload_n C.1 C.2.1 dX5_isWay_151 rfl (kh_at hl 3 rfl) ?_
      refine lv_aload_n C.1 C.2.1 dX5_isWay_152 rfl (kh_at hl 0 rfl) ?_
      refine kh_get C hw 15 17 rfl (kh_z15 ρ) kh_kd15 (Cn := RX5) (T := TX5) (N := 33) rfl (Nat.le_of_ble_eq_true rfl) k_46 (kf_15_17 ad ρ 0) dX5_isWay_153 ?_
      refine lv_iload_n C.1 C.2.1 dX5_isWay_156 rfl (kh_at hl 1 rfl) ?_
      obtain ⟨g_3, hF⟩ := kh_gd_ok hF
      refine kh_iald C hw 37 rfl (kh_z37 ρ) kh_kd37 g_3 dX5_isWay_157 ?_
      refine lv_iload_n C.1 C.2.1 dX5_isWay_158 rfl (kh_at hl 2 rfl) ?_
      obtain ⟨r_4, h_4, hF⟩ := kh_bd_ok hF
      refine kh_calli (va_runV (As := [.int x3_144, .int (ρ 37 0 0 x1_144.toNatClampNeg), .int x2_144]) (rest := []) ⟨C.1, C.2.1, C.2.2.1, C.2.2.2.1, C.2.2.2.2.1⟩ (c_X5_heldBy l D ca A ad ρ x3_144 (ρ 37 0 0 x1_144.toNatClampNeg) x2_144 h_4) (cwV 3 C.2.2.2.2.1 gX5_isWay_X5_heldBy rfl rfl rfl (by decide +kernel) ⟨Nat.le_of_ble_eq_true rfl, Nat.le_of_ble_eq_true rfl⟩) (kh_preV C hw hS 15 (kh_z15 ρ) kh_kd15 rfl) rfl rfl hl.1.1 rfl (lv_room (kh_sum kh_an (Nat.le_of_ble_eq_true rfl))) dX5_isWay_159 ⟨Nat.le_of_ble_eq_true rfl, Nat.le_of_ble_eq_true rfl⟩) hS (kh_mp h_4) (fun H locs hw hS => ?_)
      refine lv_iconst (v := (1 : Int32)) C.1 C.2.1 dX5_isWay_162 (by decide) ?_
      refine lv_iand C.1 C.2.1 dX5_isWay_163 ?_
      refine lv_iconst (v := (1 : Int32)) C.1 C.2.1 dX5_isWay_164 (by decide) ?_
      refine lv_icmp_ne (tgt := 172) C.1 C.2.1 dX5_isWay_165 (by decide) (fun c_5 => ?_) (fun c_5 => ?_)
      · have hF := kh_iff hF c_5
        exact wL172  _ _ _ hF hw hS (kh_sub hl [] rfl)
      · have hF := kh_ift hF c_5
        refine lv_iconst (v := (1 : Int32)) C.1 C.2.1 dX5_isWay_168 (by decide) ?_
        refine lv_goto (tgt := 173) C.1 C.2.1 dX5_isWay_169 (by decide) ?_
        exact wL173 (1 : Int32) _ _ _ hF hw hS (kh_sub hl [] rfl)
  have wB13 : ∀ (x1_c13 : Int32) (x2_c13 : Int32) (x3_c13 : Int32) (b : Int32), f_X5_isWay_A13 ρ x1_c13 x2_c13 x3_c13 b = some q0 → ∀ (n : Nat) (y4_13 : Int32) (y5_13 : Int32) (H : Heap) (locs : List Loc) (ls : Array Slot), kh_lp (fun a : Int32 × Int32 => f_X5_isWay_B13 ρ x1_c13 x2_c13 x3_c13 a.1 a.2) n (y4_13, y5_13) = some b → kh_w D ca A ad ρ H → va_S A s.heap H locs → kh_lv ls 10 [(0, .ref (ad 15 0)), (1, .int x1_c13), (2, .int x2_c13), (3, .int x3_c13), (4, .int y4_13), (5, .int y5_13)] → W p l e (headSpec wsX5_isWay ({ frames := 1, cells := 0, slots := 0, locals := 25 } : Room)).room s m ([.ref (ad 15 0), .int x1, .int x2]).toArray below meth c H locs 0 0 (MQ below (kh_Qi D ca A ad (kh_pu (f_X5_isWay ρ x1 x2) ρ)) ([.ref (ad 15 0), .int x1, .int x2]).toArray s 0 0 A) (F0 m 13 ls []) := by
    intro x1_c13 x2_c13 x3_c13 b hA_13 n
    induction n with
    | zero => intro y4_13 y5_13 H locs ls h9; exact absurd h9 (fun z => nomatch z)
    | succ n ih_13 =>
      intro y4_13 y5_13 H locs ls hb_13 hw hS hl
      obtain ⟨q_13, hF, hb_13⟩ := kh_lp_ok hb_13
      have hF : f_X5_isWay_B13 ρ x1_c13 x2_c13 x3_c13 y4_13 y5_13 = some q_13 := hF
      have wL141 : ∀ (x4_141 : Int32) (x5_141 : Int32) (H : Heap) (locs : List Loc) (ls : Array Slot), f_X5_isWay_L141 ρ x1_c13 x2_c13 x3_c13 x4_141 x5_141 = some q_13 → kh_w D ca A ad ρ H → va_S A s.heap H locs → kh_lv ls 10 [(0, .ref (ad 15 0)), (1, .int x1_c13), (2, .int x2_c13), (3, .int x3_c13), (4, .int x4_141), (5, .int x5_141)] → W p l e (headSpec wsX5_isWay ({ frames := 1, cells := 0, slots := 0, locals := 25 } : Room)).room s m ([.ref (ad 15 0), .int x1, .int x2]).toArray below meth c H locs 0 0 (MQ below (kh_Qi D ca A ad (kh_pu (f_X5_isWay ρ x1 x2) ρ)) ([.ref (ad 15 0), .int x1, .int x2]).toArray s 0 0 A) (F0 m 141 ls []) := by
        intro x4_141 x5_141 H locs ls hF hw hS hl
        unfold f_X5_isWay_L141 at hF
        refine lv_goto (tgt := 13) C.1 C.2.1 dX5_isWay_141 (by decide) ?_
        have e9 := Option.some.inj hF
        rcases hb_13 with ⟨a9, h8, h9⟩ | h8
        · have h7 := Sum.inl.inj (e9.trans h8)
          subst h7
          exact ih_13 _ _ _ _ _ h9 hw hS (kh_sub hl [0, 1, 2, 3, 4, 5] rfl)
        · exact absurd (e9.trans h8) (fun z => nomatch z)
      have wB42 : ∀ (x5_c42 : Int32) (x6_c42 : Int32) (b : Int32), f_X5_isWay_A42 ρ x1_c13 x2_c13 x3_c13 x5_c42 x6_c42 b = some q_13 → ∀ (n : Nat) (y4_42 : Int32) (y7_42 : Int32) (H : Heap) (locs : List Loc) (ls : Array Slot), kh_lp (fun a : Int32 × Int32 => f_X5_isWay_B42 ρ x1_c13 x2_c13 x3_c13 x5_c42 x6_c42 a.1 a.2) n (y4_42, y7_42) = some b → kh_w D ca A ad ρ H → va_S A s.heap H locs → kh_lv ls 10 [(0, .ref (ad 15 0)), (1, .int x1_c13), (2, .int x2_c13), (3, .int x3_c13), (4, .int y4_42), (5, .int x5_c42), (6, .int x6_c42), (7, .int y7_42)] → W p l e (headSpec wsX5_isWay ({ frames := 1, cells := 0, slots := 0, locals := 25 } : Room)).room s m ([.ref (ad 15 0), .int x1, .int x2]).toArray below meth c H locs 0 0 (MQ below (kh_Qi D ca A ad (kh_pu (f_X5_isWay ρ x1 x2) ρ)) ([.ref (ad 15 0), .int x1, .int x2]).toArray s 0 0 A) (F0 m 42 ls []) := by
        intro x5_c42 x6_c42 b hA_42 n
        induction n with
        | zero => intro y4_42 y7_42 H locs ls h9; exact absurd h9 (fun z => nomatch z)
        | succ n ih_42 =>
          intro y4_42 y7_42 H locs ls hb_42 hw hS hl
          obtain ⟨q_42, hF, hb_42⟩ := kh_lp_ok hb_42
          have hF : f_X5_isWay_B42 ρ x1_c13 x2_c13 x3_c13 x5_c42 x6_c42 y4_42 y7_42 = some q_42 := hF
          have wL132 : ∀ (x7_132 : Int32) (t0_132 : Int32) (t1_132 : Int32) (H : Heap) (locs : List Loc) (ls : Array Slot), f_X5_isWay_L132 ρ x1_c13 x2_c13 x3_c13 x5_c42 x6_c42 x7_132 t0_132 t1_132 = some q_42 → kh_w D ca A ad ρ H → va_S A s.heap H locs → kh_lv ls 10 [(0, .ref (ad 15 0)), (1, .int x1_c13), (2, .int x2_c13), (3, .int x3_c13), (5, .int x5_c42), (6, .int x6_c42), (7, .int x7_132)] → W p l e (headSpec wsX5_isWay ({ frames := 1, cells := 0, slots := 0, locals := 25 } : Room)).room s m ([.ref (ad 15 0), .int x1, .int x2]).toArray below meth c H locs 0 0 (MQ below (kh_Qi D ca A ad (kh_pu (f_X5_isWay ρ x1 x2) ρ)) ([.ref (ad 15 0), .int x1, .int x2]).toArray s 0 0 A) (F0 m 132 ls [.int t1_132, .int t0_132]) := by
            intro x7_132 t0_132 t1_132 H locs ls hF hw hS hl
            unfold f_X5_isWay_L132 at hF
            refine lv_ior C.1 C.2.1 dX5_isWay_132 ?_
            refine kh_istore (lv' := [(4, .int (t0_132 ||| t1_132)), (0, .ref (ad 15 0)), (1, .int x1_c13), (2, .int x2_c13), (3, .int x3_c13), (5, .int x5_c42), (6, .int x6_c42), (7, .int x7_132)]) C.1 C.2.1 dX5_isWay_133 hl (by decide) rfl (fun ls hl => ?_)
            refine kh_iinc (v := x7_132 + (1 : Int32)) (lv' := [(7, .int (x7_132 + (1 : Int32))), (4, .int (t0_132 ||| t1_132)), (0, .ref (ad 15 0)), (1, .int x1_c13), (2, .int x2_c13), (3, .int x3_c13), (5, .int x5_c42), (6, .int x6_c42)]) C.1 C.2.1 dX5_isWay_135 hl (k := 7) rfl (by rfl) (by decide) rfl (fun ls hl => ?_)
            refine lv_goto (tgt := 42) C.1 C.2.1 dX5_isWay_138 (by decide) ?_
            have e9 := Option.some.inj hF
            rcases hb_42 with ⟨a9, h8, h9⟩ | h8
            · have h7 := Sum.inl.inj (e9.trans h8)
              subst h7
              exact ih_42 _ _ _ _ _ h9 hw hS (kh_sub hl [2, 3, 4, 5, 1, 6, 7, 0] rfl)
            · exact absurd (e9.trans h8) (fun z => nomatch z)
          have wL115 : ∀ (x4_115 : Int32) (x7_115 : Int32) (t0_115 : Int32) (H : Heap) (locs : List Loc) (ls : Array Slot), f_X5_isWay_L115 ρ x1_c13 x2_c13 x3_c13 x5_c42 x6_c42 x4_115 x7_115 t0_115 = some q_42 → kh_w D ca A ad ρ H → va_S A s.heap H locs → kh_lv ls 10 [(0, .ref (ad 15 0)), (1, .int x1_c13), (2, .int x2_c13), (3, .int x3_c13), (4, .int x4_115), (5, .int x5_c42), (6, .int x6_c42), (7, .int x7_115)] → W p l e (headSpec wsX5_isWay ({ frames := 1, cells := 0, slots := 0, locals := 25 } : Room)).room s m ([.ref (ad 15 0), .int x1, .int x2]).toArray below meth c H locs 0 0 (MQ below (kh_Qi D ca A ad (kh_pu (f_X5_isWay ρ x1 x2) ρ)) ([.ref (ad 15 0), .int x1, .int x2]).toArray s 0 0 A) (F0 m 115 ls [.int t0_115]) := by
            intro x4_115 x7_115 t0_115 H locs ls hF hw hS hl
            unfold f_X5_isWay_L115 at hF
            refine kh_istore (lv' := [(9, .int t0_115), (0, .ref (ad 15 0)), (1, .int x1_c13), (2, .int x2_c13), (3, .int x3_c13), (4, .int x4_115), (5, .int x5_c42), (6, .int x6_c42), (7, .int x7_115)]) C.1 C.2.1 dX5_isWay_115 hl (by decide) rfl (fun ls hl => ?_)
            refine lv_iload C.1 C.2.1 dX5_isWay_117 (kh_at hl 5 rfl) ?_
            refine lv_iload C.1 C.2.1 dX5_isWay_119 (kh_at hl 0 rfl) ?_
            refine lv_if_eq (tgt := 131) C.1 C.2.1 dX5_isWay_121 (by decide) (fun c_6 => ?_) (fun c_6 => ?_)
            · have hF := kh_ift hF c_6
              refine lv_iconst (v := (0 : Int32)) C.1 C.2.1 dX5_isWay_131 (by decide) ?_
              exact wL132 x7_115 x4_115 (0 : Int32) _ _ _ hF hw hS (kh_sub hl [1, 2, 3, 4, 6, 7, 8] rfl)
            · have hF := kh_iff hF c_6
              refine lv_iconst (v := (1 : Int32)) C.1 C.2.1 dX5_isWay_124 (by decide) ?_
              refine lv_iload C.1 C.2.1 dX5_isWay_125 (kh_at hl 8 rfl) ?_
              refine lv_ishl C.1 C.2.1 dX5_isWay_127 ?_
              refine lv_goto (tgt := 132) C.1 C.2.1 dX5_isWay_128 (by decide) ?_
              exact wL132 x7_115 x4_115 ((1 : Int32) <<< (x7_115 &&& 31)) _ _ _ hF hw hS (kh_sub hl [1, 2, 3, 4, 6, 7, 8] rfl)
          have wL114 : ∀ (x4_114 : Int32) (x7_114 : Int32) (H : Heap) (locs : List Loc) (ls : Array Slot), f_X5_isWay_L114 ρ x1_c13 x2_c13 x3_c13 x5_c42 x6_c42 x4_114 x7_114 = some q_42 → kh_w D ca A ad ρ H → va_S A s.heap H locs → kh_lv ls 10 [(0, .ref (ad 15 0)), (1, .int x1_c13), (2, .int x2_c13), (3, .int x3_c13), (4, .int x4_114), (5, .int x5_c42), (6, .int x6_c42), (7, .int x7_114)] → W p l e (headSpec wsX5_isWay ({ frames := 1, cells := 0, slots := 0, locals := 25 } : Room)).room s m ([.ref (ad 15 0), .int x1, .int x2]).toArray below meth c H locs 0 0 (MQ below (kh_Qi D ca A ad (kh_pu (f_X5_isWay ρ x1 x2) ρ)) ([.ref (ad 15 0), .int x1, .int x2]).toArray s 0 0 A) (F0 m 114 ls []) := by
            intro x4_114 x7_114 H locs ls hF hw hS hl
            unfold f_X5_isWay_L114 at hF
            refine lv_iconst (v := (0 : Int32)) C.1 C.2.1 dX5_isWay_114 (by decide) ?_
            exact wL115 x4_114 x7_114 (0 : Int32) _ _ _ hF hw hS (kh_sub hl [0, 1, 2, 3, 4, 5, 6, 7] rfl)
          unfold f_X5_isWay_B42 at hF
          refine lv_iload C.1 C.2.1 dX5_isWay_42 (kh_at hl 7 rfl) ?_
          refine lv_aload_n C.1 C.2.1 dX5_isWay_44 rfl (kh_at hl 0 rfl) ?_
          refine kh_get C hw 15 5 rfl (kh_z15 ρ) kh_kd15 (Cn := RX5) (T := TX5) (N := 33) rfl (Nat.le_of_ble_eq_true rfl) k_13 (kf_15_5 ad ρ 0) dX5_isWay_45 ?_
          refine lv_iload_n C.1 C.2.1 dX5_isWay_48 rfl (kh_at hl 3 rfl) ?_
          obtain ⟨g_7, hF⟩ := kh_gd_ok hF
          refine kh_iald C hw 25 rfl (kh_z25 ρ) kh_kd25 g_7 dX5_isWay_49 ?_
          refine lv_icmp_ge (tgt := 141) C.1 C.2.1 dX5_isWay_50 (by decide) (fun c_8 => ?_) (fun c_8 => ?_)
          · have hF := kh_ift hF c_8
            have e9 := Option.some.inj hF
            rcases hb_42 with ⟨a9, h8, h9⟩ | h8
            · exact absurd (e9.trans h8) (fun z => nomatch z)
            have h7 := Sum.inr.inj (e9.trans h8)
            have hF := (congrArg (f_X5_isWay_A42 ρ x1_c13 x2_c13 x3_c13 x5_c42 x6_c42) h7).trans hA_42
            exact wL141 y4_42 x5_c42 _ _ _ hF hw hS (kh_sub hl [0, 1, 2, 3, 4, 5] rfl)
          · have hF := kh_iff hF c_8
            refine lv_bipush (v := (8 : Int32)) C.1 C.2.1 dX5_isWay_53 (by decide) ?_
            refine lv_iload_n C.1 C.2.1 dX5_isWay_55 rfl (kh_at hl 3 rfl) ?_
            refine lv_imul C.1 C.2.1 dX5_isWay_56 ?_
            refine lv_iload C.1 C.2.1 dX5_isWay_57 (kh_at hl 7 rfl) ?_
            refine lv_iadd C.1 C.2.1 dX5_isWay_59 ?_
            refine kh_istore (lv' := [(8, .int (((8 : Int32) * x3_c13) + y7_42)), (0, .ref (ad 15 0)), (1, .int x1_c13), (2, .int x2_c13), (3, .int x3_c13), (4, .int y4_42), (5, .int x5_c42), (6, .int x6_c42), (7, .int y7_42)]) C.1 C.2.1 dX5_isWay_60 hl (by decide) rfl (fun ls hl => ?_)
            refine lv_iload_n C.1 C.2.1 dX5_isWay_62 rfl (kh_at hl 3 rfl) ?_
            refine lv_iload C.1 C.2.1 dX5_isWay_63 (kh_at hl 8 rfl) ?_
            refine lv_ishr C.1 C.2.1 dX5_isWay_65 ?_
            refine lv_iconst (v := (1 : Int32)) C.1 C.2.1 dX5_isWay_66 (by decide) ?_
            refine lv_iand C.1 C.2.1 dX5_isWay_67 ?_
            refine lv_iconst (v := (1 : Int32)) C.1 C.2.1 dX5_isWay_68 (by decide) ?_
            refine lv_icmp_ne (tgt := 114) C.1 C.2.1 dX5_isWay_69 (by decide) (fun c_9 => ?_) (fun c_9 => ?_)
            · have hF := kh_iff hF c_9
              exact wL114 y4_42 y7_42 _ _ _ hF hw hS (kh_sub hl [1, 2, 3, 4, 5, 6, 7, 8] rfl)
            · have hF := kh_ift hF c_9
              refine lv_aload_n C.1 C.2.1 dX5_isWay_72 rfl (kh_at hl 1 rfl) ?_
              refine kh_get C hw 15 18 rfl (kh_z15 ρ) kh_kd15 (Cn := RX5) (T := TX5) (N := 33) rfl (Nat.le_of_ble_eq_true rfl) k_49 (kf_15_18 ad ρ 0) dX5_isWay_73 ?_
              refine lv_iload_n C.1 C.2.1 dX5_isWay_76 rfl (kh_at hl 2 rfl) ?_
              obtain ⟨g_10, hF⟩ := kh_gd_ok hF
              refine kh_iald C hw 38 rfl (kh_z38 ρ) kh_kd38 g_10 dX5_isWay_77 ?_
              refine lv_iload C.1 C.2.1 dX5_isWay_78 (kh_at hl 8 rfl) ?_
              refine lv_ishr C.1 C.2.1 dX5_isWay_80 ?_
              refine lv_iconst (v := (1 : Int32)) C.1 C.2.1 dX5_isWay_81 (by decide) ?_
              refine lv_iand C.1 C.2.1 dX5_isWay_82 ?_
              refine lv_if_ne (tgt := 114) C.1 C.2.1 dX5_isWay_83 (by decide) (fun c_11 => ?_) (fun c_11 => ?_)
              · have hF := kh_iff hF c_11
                exact wL114 y4_42 y7_42 _ _ _ hF hw hS (kh_sub hl [1, 2, 3, 4, 5, 6, 7, 8] rfl)
              · have hF := kh_ift hF c_11
                refine lv_aload_n C.1 C.2.1 dX5_isWay_86 rfl (kh_at hl 1 rfl) ?_
                refine lv_iload C.1 C.2.1 dX5_isWay_87 (kh_at hl 0 rfl) ?_
                obtain ⟨r_12, h_12, hF⟩ := kh_bd_ok hF
                refine kh_calli (va_runV (As := [.int (((8 : Int32) * x3_c13) + y7_42)]) (rest := []) ⟨C.1, C.2.1, C.2.2.1, C.2.2.2.1, C.2.2.2.2.1⟩ (c_X5_isOut l D ca A ad ρ (((8 : Int32) * x3_c13) + y7_42) h_12) (cwV 1 C.2.2.2.2.1 gX5_isWay_X5_isOut rfl rfl rfl (by decide +kernel) ⟨Nat.le_of_ble_eq_true rfl, Nat.le_of_ble_eq_true rfl⟩) (kh_preV C hw hS 15 (kh_z15 ρ) kh_kd15 rfl) rfl rfl hl.1.1 rfl (lv_room (kh_sum kh_an (Nat.le_of_ble_eq_true rfl))) dX5_isWay_89 ⟨Nat.le_of_ble_eq_true rfl, Nat.le_of_ble_eq_true rfl⟩) hS (kh_mp h_12) (fun H locs hw hS => ?_)
                refine lv_if_ne (tgt := 114) C.1 C.2.1 dX5_isWay_92 (by decide) (fun c_13 => ?_) (fun c_13 => ?_)
                · have hF := kh_iff hF c_13
                  exact wL114 y4_42 y7_42 _ _ _ hF hw hS (kh_sub hl [1, 2, 3, 4, 5, 6, 7, 8] rfl)
                · have hF := kh_ift hF c_13
                  refine lv_aload_n C.1 C.2.1 dX5_isWay_95 rfl (kh_at hl 1 rfl) ?_
                  refine kh_get C hw 15 10 rfl (kh_z15 ρ) kh_kd15 (Cn := RX5) (T := TX5) (N := 33) rfl (Nat.le_of_ble_eq_true rfl) k_28 (kf_15_10 ad ρ 0) dX5_isWay_96 ?_
                  refine lv_iload C.1 C.2.1 dX5_isWay_99 (kh_at hl 0 rfl) ?_
                  obtain ⟨g_14, hF⟩ := kh_gd_ok hF
                  refine kh_iald C hw 30 rfl (kh_z30 ρ) kh_kd30 g_14 dX5_isWay_101 ?_
                  refine lv_iload C.1 C.2.1 dX5_isWay_102 (kh_at hl 7 rfl) ?_
                  refine lv_iconst (v := (-1 : Int32)) C.1 C.2.1 dX5_isWay_104 (by decide) ?_
                  refine lv_ixor C.1 C.2.1 dX5_isWay_105 ?_
                  refine lv_iand C.1 C.2.1 dX5_isWay_106 ?_
                  refine lv_if_ne (tgt := 114) C.1 C.2.1 dX5_isWay_107 (by decide) (fun c_15 => ?_) (fun c_15 => ?_)
                  · have hF := kh_iff hF c_15
                    exact wL114 y4_42 y7_42 _ _ _ hF hw hS (kh_sub hl [1, 2, 3, 4, 5, 6, 7, 8] rfl)
                  · have hF := kh_ift hF c_15
                    refine lv_iconst (v := (1 : Int32)) C.1 C.2.1 dX5_isWay_110 (by decide) ?_
                    refine lv_goto (tgt := 115) C.1 C.2.1 dX5_isWay_111 (by decide) ?_
                    exact wL115 y4_42 y7_42 (1 : Int32) _ _ _ hF hw hS (kh_sub hl [1, 2, 3, 4, 5, 6, 7, 8] rfl)
      unfold f_X5_isWay_B13 at hF
      refine lv_iload C.1 C.2.1 dX5_isWay_13 (kh_at hl 4 rfl) ?_
      refine lv_iload C.1 C.2.1 dX5_isWay_15 (kh_at hl 5 rfl) ?_
      refine lv_icmp_eq (tgt := 144) C.1 C.2.1 dX5_isWay_17 (by decide) (fun c_16 => ?_) (fun c_16 => ?_)
      · have hF := kh_ift hF c_16
        have e9 := Option.some.inj hF
        rcases hb_13 with ⟨a9, h8, h9⟩ | h8
        · exact absurd (e9.trans h8) (fun z => nomatch z)
        have h7 := Sum.inr.inj (e9.trans h8)
        have hF := (congrArg (f_X5_isWay_A13 ρ x1_c13 x2_c13 x3_c13) h7).trans hA_13
        exact wL144 x1_c13 x2_c13 x3_c13 y4_13 _ _ _ hF hw hS (kh_sub hl [0, 1, 2, 3, 4] rfl)
      · have hF := kh_iff hF c_16
        refine lv_iload C.1 C.2.1 dX5_isWay_20 (kh_at hl 4 rfl) ?_
        refine kh_istore (lv' := [(5, .int y4_13), (0, .ref (ad 15 0)), (1, .int x1_c13), (2, .int x2_c13), (3, .int x3_c13), (4, .int y4_13)]) C.1 C.2.1 dX5_isWay_22 hl (by decide) rfl (fun ls hl => ?_)
        refine lv_aload_n C.1 C.2.1 dX5_isWay_24 rfl (kh_at hl 1 rfl) ?_
        refine lv_iload_n C.1 C.2.1 dX5_isWay_25 rfl (kh_at hl 4 rfl) ?_
        refine lv_aload_n C.1 C.2.1 dX5_isWay_26 rfl (kh_at hl 1 rfl) ?_
        refine kh_get C hw 15 17 rfl (kh_z15 ρ) kh_kd15 (Cn := RX5) (T := TX5) (N := 33) rfl (Nat.le_of_ble_eq_true rfl) k_46 (kf_15_17 ad ρ 0) dX5_isWay_27 ?_
        refine lv_iload_n C.1 C.2.1 dX5_isWay_30 rfl (kh_at hl 2 rfl) ?_
        obtain ⟨g_17, hF⟩ := kh_gd_ok hF
        refine kh_iald C hw 37 rfl (kh_z37 ρ) kh_kd37 g_17 dX5_isWay_31 ?_
        refine lv_iload C.1 C.2.1 dX5_isWay_32 (kh_at hl 5 rfl) ?_
        obtain ⟨r_18, h_18, hF⟩ := kh_bd_ok hF
        refine kh_calli (va_runV (As := [.int x3_c13, .int (ρ 37 0 0 x1_c13.toNatClampNeg), .int y4_13]) (rest := []) ⟨C.1, C.2.1, C.2.2.1, C.2.2.2.1, C.2.2.2.2.1⟩ (c_X5_heldBy l D ca A ad ρ x3_c13 (ρ 37 0 0 x1_c13.toNatClampNeg) y4_13 h_18) (cwV 3 C.2.2.2.2.1 gX5_isWay_X5_heldBy rfl rfl rfl (by decide +kernel) ⟨Nat.le_of_ble_eq_true rfl, Nat.le_of_ble_eq_true rfl⟩) (kh_preV C hw hS 15 (kh_z15 ρ) kh_kd15 rfl) rfl rfl hl.1.1 rfl (lv_room (kh_sum kh_an (Nat.le_of_ble_eq_true rfl))) dX5_isWay_34 ⟨Nat.le_of_ble_eq_true rfl, Nat.le_of_ble_eq_true rfl⟩) hS (kh_mp h_18) (fun H locs hw hS => ?_)
        refine kh_istore (lv' := [(6, .int r_18), (5, .int y4_13), (0, .ref (ad 15 0)), (1, .int x1_c13), (2, .int x2_c13), (3, .int x3_c13), (4, .int y4_13)]) C.1 C.2.1 dX5_isWay_37 hl (by decide) rfl (fun ls hl => ?_)
        refine lv_iconst (v := (0 : Int32)) C.1 C.2.1 dX5_isWay_39 (by decide) ?_
        refine kh_istore (lv' := [(7, .int (0 : Int32)), (6, .int r_18), (5, .int y4_13), (0, .ref (ad 15 0)), (1, .int x1_c13), (2, .int x2_c13), (3, .int x3_c13), (4, .int y4_13)]) C.1 C.2.1 dX5_isWay_40 hl (by decide) rfl (fun ls hl => ?_)
        obtain ⟨b_42, hb_42, hF⟩ := kh_bd_ok hF
        exact wB42 y4_13 r_18 b_42 hF _ y4_13 (0 : Int32) _ _ _ hb_42 hw hS (kh_sub hl [3, 4, 5, 6, 7, 2, 1, 0] rfl)
  refine lv_aload_n C.1 C.2.1 dX5_isWay_0 rfl (kh_at hl 0 rfl) ?_
  refine kh_get C hw 15 16 rfl (kh_z15 ρ) kh_kd15 (Cn := RX5) (T := TX5) (N := 33) rfl (Nat.le_of_ble_eq_true rfl) k_43 (kf_15_16 ad ρ 0) dX5_isWay_1 ?_
  refine lv_iload_n C.1 C.2.1 dX5_isWay_4 rfl (kh_at hl 1 rfl) ?_
  obtain ⟨g_19, hF⟩ := kh_gd_ok hF
  refine kh_iald C hw 36 rfl (kh_z36 ρ) kh_kd36 g_19 dX5_isWay_5 ?_
  refine kh_istore_n (lv' := [(3, .int (ρ 36 0 0 x1.toNatClampNeg)), (0, .ref (ad 15 0)), (1, .int x1), (2, .int x2)]) C.1 C.2.1 dX5_isWay_6 rfl hl (by decide) rfl (fun ls hl => ?_)
  refine lv_iconst (v := (0 : Int32)) C.1 C.2.1 dX5_isWay_7 (by decide) ?_
  refine kh_istore (lv' := [(4, .int (0 : Int32)), (3, .int (ρ 36 0 0 x1.toNatClampNeg)), (0, .ref (ad 15 0)), (1, .int x1), (2, .int x2)]) C.1 C.2.1 dX5_isWay_8 hl (by decide) rfl (fun ls hl => ?_)
  refine lv_iconst (v := (-1 : Int32)) C.1 C.2.1 dX5_isWay_10 (by decide) ?_
  refine kh_istore (lv' := [(5, .int (-1 : Int32)), (4, .int (0 : Int32)), (3, .int (ρ 36 0 0 x1.toNatClampNeg)), (0, .ref (ad 15 0)), (1, .int x1), (2, .int x2)]) C.1 C.2.1 dX5_isWay_11 hl (by decide) rfl (fun ls hl => ?_)
  obtain ⟨b_13, hb_13, hF⟩ := kh_bd_ok hF
  exact wB13 x1 x2 (ρ 36 0 0 x1.toNatClampNeg) b_13 hF _ (0 : Int32) (-1 : Int32) _ _ _ hb_13 hw hS (kh_sub hl [3, 4, 5, 2, 1, 0] rfl)

def f_X5_wayOf_L57 (ρ : kh_S) (x2_57 : Int32) : Option (Int32) := some x2_57
def f_X5_wayOf_L50 (ρ : kh_S) (x1_c4 : Int32) (x3_50 : Int32) (t0_50 : Int32) : Option ((Int32 × Int32) ⊕ (Int32)) := some (.inl (t0_50, x3_50 + (1 : Int32)))
def f_X5_wayOf_L49 (ρ : kh_S) (x1_c4 : Int32) (x2_49 : Int32) (x3_49 : Int32) : Option ((Int32 × Int32) ⊕ (Int32)) := f_X5_wayOf_L50 ρ x1_c4 x3_49 x2_49
def f_X5_wayOf_L36 (ρ : kh_S) (x1_c4 : Int32) (x2_36 : Int32) (x3_36 : Int32) : Option ((Int32 × Int32) ⊕ (Int32)) := kh_bd (f_X5_isWay ρ x1_c4 x3_36) (fun r_1 => if r_1 = 0 then f_X5_wayOf_L49 ρ x1_c4 x2_36 x3_36 else f_X5_wayOf_L50 ρ x1_c4 x3_36 x3_36)
def f_X5_wayOf_B4 (ρ : kh_S) (x1_c4 : Int32) (y2_4 : Int32) (y3_4 : Int32) : Option ((Int32 × Int32) ⊕ (Int32)) := kh_gd (kh_in x1_c4 30) (kh_gd (kh_in (ρ 36 0 0 x1_c4.toNatClampNeg) 4) (if ((1 : Int32) <<< ((ρ 25 0 0 (ρ 36 0 0 x1_c4.toNatClampNeg).toNatClampNeg) &&& 31)) ≤ y3_4 then some (.inr y2_4) else if y2_4 = 0 then f_X5_wayOf_L36 ρ x1_c4 y2_4 y3_4 else kh_bd (f_X5_count ρ y3_4) (fun r_7 => kh_bd (f_X5_count ρ y2_4) (fun r_8 => if r_8 ≤ r_7 then f_X5_wayOf_L49 ρ x1_c4 y2_4 y3_4 else f_X5_wayOf_L36 ρ x1_c4 y2_4 y3_4))))
def f_X5_wayOf_A4 (ρ : kh_S) (x1_c4 : Int32) : (Int32) → Option (Int32) := (fun u : Int32 => f_X5_wayOf_L57 ρ u)
def f_X5_wayOf (ρ : kh_S) (x1 : Int32) : Option (Int32) := kh_bd (kh_lp (fun a : Int32 × Int32 => f_X5_wayOf_B4 ρ x1 a.1 a.2) 9999 ((0 : Int32), (1 : Int32))) (f_X5_wayOf_A4 ρ x1)
set_option maxHeartbeats 4000000 in
set_option maxRecDepth 100000 in
theorem c_X5_wayOf (l : Launch) (D : va_G) (ca : Nat → ClassId) (A : Nat → Prop) (ad : Nat → Nat → Nat) (ρ : kh_S) (x1 : Int32) {q0 : Int32} (hF0 : f_X5_wayOf ρ x1 = some q0) : Met l yX5_wayOf wsX5_wayOf ({ frames := 2, cells := 0, slots := 0, locals := 54 } : Room) (va_Pc [.ref (ad 15 0), .int x1] (kh_I D ca A ad ρ)) (kh_Qi D ca A ad (kh_pu (f_X5_wayOf ρ x1) ρ)) 0 0 A := by
  refine Met.ofW (cc := cX5_wayOf) (maxL := 4) (ret := (some .int)) (by decide) rfl ?_
  intro p e s m args below meth c s₁ B hml hv
  obtain ⟨rfl, hK, hw, hA⟩ := hv
  have C : kh_C p s m ([.ref (ad 15 0), .int x1]).toArray c cX5_wayOf 4 RX5 wsX5_wayOf D ca A := ⟨B.exec, B.bytes, hml, findClass_of_methodNamed B.named, atoms_spec (ws := wsX5_wayOf) B.pre, hK, hA⟩
  have hr := B.returns
  have hlocks := B.notSynchronized
  have hS : va_S A s.heap s.heap [] := va_S.rf
  have hl := kh_entry ([.ref (ad 15 0), .int x1]) (n := 4) (kh_ac rfl (kh_ac rfl kh_an)) (Nat.le_of_ble_eq_true rfl)
  rw [lg_entry_eq]
  generalize (lg_sl ([.ref (ad 15 0), .int x1]) ++ List.replicate (4 - (lg_sl ([.ref (ad 15 0), .int x1])).length) Slot.unset).toArray = ls at hl ⊢
  have hl : kh_lv ls 4 [(0, .ref (ad 15 0)), (1, .int x1)] := hl
  have k_13 := C.2.2.2.2.1 (.fieldLink RX5 13 "KeylessHallModel" "many" "[I") (by decide +kernel)
  have k_43 := C.2.2.2.2.1 (.fieldLink RX5 43 "KeylessHallModel" "roomOf" "[I") (by decide +kernel)
  have hF := hF0
  unfold f_X5_wayOf at hF
  have wL57 : ∀ (x2_57 : Int32) (H : Heap) (locs : List Loc) (ls : Array Slot), f_X5_wayOf_L57 ρ x2_57 = some q0 → kh_w D ca A ad ρ H → va_S A s.heap H locs → kh_lv ls 4 [(2, .int x2_57)] → W p l e (headSpec wsX5_wayOf ({ frames := 2, cells := 0, slots := 0, locals := 54 } : Room)).room s m ([.ref (ad 15 0), .int x1]).toArray below meth c H locs 0 0 (MQ below (kh_Qi D ca A ad (kh_pu (f_X5_wayOf ρ x1) ρ)) ([.ref (ad 15 0), .int x1]).toArray s 0 0 A) (F0 m 57 ls []) := by
    intro x2_57 H locs ls hF hw hS hl
    unfold f_X5_wayOf_L57 at hF
    refine lv_iload_n C.1 C.2.1 dX5_wayOf_57 rfl (kh_at hl 0 rfl) ?_
    exact W.iret (v := x2_57) C.1 C.2.1 hr (fun t ht hW => ⟨⟨x2_57, ρ, rfl, kh_mp (hF0.trans hF.symm), kh_bk ht hw⟩, hS.F ht⟩) hS.2.2 dX5_wayOf_58
  have wB4 : ∀ (x1_c4 : Int32) (b : Int32), f_X5_wayOf_A4 ρ x1_c4 b = some q0 → ∀ (n : Nat) (y2_4 : Int32) (y3_4 : Int32) (H : Heap) (locs : List Loc) (ls : Array Slot), kh_lp (fun a : Int32 × Int32 => f_X5_wayOf_B4 ρ x1_c4 a.1 a.2) n (y2_4, y3_4) = some b → kh_w D ca A ad ρ H → va_S A s.heap H locs → kh_lv ls 4 [(0, .ref (ad 15 0)), (1, .int x1_c4), (2, .int y2_4), (3, .int y3_4)] → W p l e (headSpec wsX5_wayOf ({ frames := 2, cells := 0, slots := 0, locals := 54 } : Room)).room s m ([.ref (ad 15 0), .int x1]).toArray below meth c H locs 0 0 (MQ below (kh_Qi D ca A ad (kh_pu (f_X5_wayOf ρ x1) ρ)) ([.ref (ad 15 0), .int x1]).toArray s 0 0 A) (F0 m 4 ls []) := by
    intro x1_c4 b hA_4 n
    induction n with
    | zero => intro y2_4 y3_4 H locs ls h9; exact absurd h9 (fun z => nomatch z)
    | succ n ih_4 =>
      intro y2_4 y3_4 H locs ls hb_4 hw hS hl
      obtain ⟨q_4, hF, hb_4⟩ := kh_lp_ok hb_4
      have hF : f_X5_wayOf_B4 ρ x1_c4 y2_4 y3_4 = some q_4 := hF
      have wL50 : ∀ (x3_50 : Int32) (t0_50 : Int32) (H : Heap) (locs : List Loc) (ls : Array Slot), f_X5_wayOf_L50 ρ x1_c4 x3_50 t0_50 = some q_4 → kh_w D ca A ad ρ H → va_S A s.heap H locs → kh_lv ls 4 [(0, .ref (ad 15 0)), (1, .int x1_c4), (3, .int x3_50)] → W p l e (headSpec wsX5_wayOf ({ frames := 2, cells := 0, slots := 0, locals := 54 } : Room)).room s m ([.ref (ad 15 0), .int x1]).toArray below meth c H locs 0 0 (MQ below (kh_Qi D ca A ad (kh_pu (f_X5_wayOf ρ x1) ρ)) ([.ref (ad 15 0), .int x1]).toArray s 0 0 A) (F0 m 50 ls [.int t0_50]) := by
        intro x3_50 t0_50 H locs ls hF hw hS hl
        unfold f_X5_wayOf_L50 at hF
        refine kh_istore_n (lv' := [(2, .int t0_50), (0, .ref (ad 15 0)), (1, .int x1_c4), (3, .int x3_50)]) C.1 C.2.1 dX5_wayOf_50 rfl hl (by decide) rfl (fun ls hl => ?_)
        refine kh_iinc (v := x3_50 + (1 : Int32)) (lv' := [(3, .int (x3_50 + (1 : Int32))), (2, .int t0_50), (0, .ref (ad 15 0)), (1, .int x1_c4)]) C.1 C.2.1 dX5_wayOf_51 hl (k := 3) rfl (by rfl) (by decide) rfl (fun ls hl => ?_)
        refine lv_goto (tgt := 4) C.1 C.2.1 dX5_wayOf_54 (by decide) ?_
        have e9 := Option.some.inj hF
        rcases hb_4 with ⟨a9, h8, h9⟩ | h8
        · have h7 := Sum.inl.inj (e9.trans h8)
          subst h7
          exact ih_4 _ _ _ _ _ h9 hw hS (kh_sub hl [2, 3, 1, 0] rfl)
        · exact absurd (e9.trans h8) (fun z => nomatch z)
      have wL49 : ∀ (x2_49 : Int32) (x3_49 : Int32) (H : Heap) (locs : List Loc) (ls : Array Slot), f_X5_wayOf_L49 ρ x1_c4 x2_49 x3_49 = some q_4 → kh_w D ca A ad ρ H → va_S A s.heap H locs → kh_lv ls 4 [(0, .ref (ad 15 0)), (1, .int x1_c4), (2, .int x2_49), (3, .int x3_49)] → W p l e (headSpec wsX5_wayOf ({ frames := 2, cells := 0, slots := 0, locals := 54 } : Room)).room s m ([.ref (ad 15 0), .int x1]).toArray below meth c H locs 0 0 (MQ below (kh_Qi D ca A ad (kh_pu (f_X5_wayOf ρ x1) ρ)) ([.ref (ad 15 0), .int x1]).toArray s 0 0 A) (F0 m 49 ls []) := by
        intro x2_49 x3_49 H locs ls hF hw hS hl
        unfold f_X5_wayOf_L49 at hF
        refine lv_iload_n C.1 C.2.1 dX5_wayOf_49 rfl (kh_at hl 2 rfl) ?_
        exact wL50 x3_49 x2_49 _ _ _ hF hw hS (kh_sub hl [0, 1, 3] rfl)
      have wL36 : ∀ (x2_36 : Int32) (x3_36 : Int32) (H : Heap) (locs : List Loc) (ls : Array Slot), f_X5_wayOf_L36 ρ x1_c4 x2_36 x3_36 = some q_4 → kh_w D ca A ad ρ H → va_S A s.heap H locs → kh_lv ls 4 [(0, .ref (ad 15 0)), (1, .int x1_c4), (2, .int x2_36), (3, .int x3_36)] → W p l e (headSpec wsX5_wayOf ({ frames := 2, cells := 0, slots := 0, locals := 54 } : Room)).room s m ([.ref (ad 15 0), .int x1]).toArray below meth c H locs 0 0 (MQ below (kh_Qi D ca A ad (kh_pu (f_X5_wayOf ρ x1) ρ)) ([.ref (ad 15 0), .int x1]).toArray s 0 0 A) (F0 m 36 ls []) := by
        intro x2_36 x3_36 H locs ls hF hw hS hl
        unfold f_X5_wayOf_L36 at hF
        refine lv_aload_n C.1 C.2.1 dX5_wayOf_36 rfl (kh_at hl 0 rfl) ?_
        refine lv_iload_n C.1 C.2.1 dX5_wayOf_37 rfl (kh_at hl 1 rfl) ?_
        refine lv_iload_n C.1 C.2.1 dX5_wayOf_38 rfl (kh_at hl 3 rfl) ?_
        obtain ⟨r_1, h_1, hF⟩ := kh_bd_ok hF
        refine kh_calli (va_runV (As := [.int x1_c4, .int x3_36]) (rest := []) ⟨C.1, C.2.1, C.2.2.1, C.2.2.2.1, C.2.2.2.2.1⟩ (c_X5_isWay l D ca A ad ρ x1_c4 x3_36 h_1) (cwV 2 C.2.2.2.2.1 gX5_wayOf_X5_isWay rfl rfl rfl (by decide +kernel) ⟨Nat.le_of_ble_eq_true rfl, Nat.le_of_ble_eq_true rfl⟩) (kh_preV C hw hS 15 (kh_z15 ρ) kh_kd15 rfl) rfl rfl hl.1.1 rfl (lv_room (kh_sum kh_an (Nat.le_of_ble_eq_true rfl))) dX5_wayOf_39 ⟨Nat.le_of_ble_eq_true rfl, Nat.le_of_ble_eq_true rfl⟩) hS (kh_mp h_1) (fun H locs hw hS => ?_)
        refine lv_if_eq (tgt := 49) C.1 C.2.1 dX5_wayOf_42 (by decide) (fun c_2 => ?_) (fun c_2 => ?_)
        · have hF := kh_ift hF c_2
          exact wL49 x2_36 x3_36 _ _ _ hF hw hS (kh_sub hl [0, 1, 2, 3] rfl)
        · have hF := kh_iff hF c_2
          refine lv_iload_n C.1 C.2.1 dX5_wayOf_45 rfl (kh_at hl 3 rfl) ?_
          refine lv_goto (tgt := 50) C.1 C.2.1 dX5_wayOf_46 (by decide) ?_
          exact wL50 x3_36 x3_36 _ _ _ hF hw hS (kh_sub hl [0, 1, 3] rfl)
      unfold f_X5_wayOf_B4 at hF
      refine lv_iload_n C.1 C.2.1 dX5_wayOf_4 rfl (kh_at hl 3 rfl) ?_
      refine lv_iconst (v := (1 : Int32)) C.1 C.2.1 dX5_wayOf_5 (by decide) ?_
      refine lv_aload_n C.1 C.2.1 dX5_wayOf_6 rfl (kh_at hl 0 rfl) ?_
      refine kh_get C hw 15 5 rfl (kh_z15 ρ) kh_kd15 (Cn := RX5) (T := TX5) (N := 33) rfl (Nat.le_of_ble_eq_true rfl) k_13 (kf_15_5 ad ρ 0) dX5_wayOf_7 ?_
      refine lv_aload_n C.1 C.2.1 dX5_wayOf_10 rfl (kh_at hl 0 rfl) ?_
      refine kh_get C hw 15 16 rfl (kh_z15 ρ) kh_kd15 (Cn := RX5) (T := TX5) (N := 33) rfl (Nat.le_of_ble_eq_true rfl) k_43 (kf_15_16 ad ρ 0) dX5_wayOf_11 ?_
      refine lv_iload_n C.1 C.2.1 dX5_wayOf_14 rfl (kh_at hl 1 rfl) ?_
      obtain ⟨g_3, hF⟩ := kh_gd_ok hF
      refine kh_iald C hw 36 rfl (kh_z36 ρ) kh_kd36 g_3 dX5_wayOf_15 ?_
      obtain ⟨g_4, hF⟩ := kh_gd_ok hF
      refine kh_iald C hw 25 rfl (kh_z25 ρ) kh_kd25 g_4 dX5_wayOf_16 ?_
      refine lv_ishl C.1 C.2.1 dX5_wayOf_17 ?_
      refine lv_icmp_ge (tgt := 57) C.1 C.2.1 dX5_wayOf_18 (by decide) (fun c_5 => ?_) (fun c_5 => ?_)
      · have hF := kh_ift hF c_5
        have e9 := Option.some.inj hF
        rcases hb_4 with ⟨a9, h8, h9⟩ | h8
        · exact absurd (e9.trans h8) (fun z => nomatch z)
        have h7 := Sum.inr.inj (e9.trans h8)
        have hF := (congrArg (f_X5_wayOf_A4 ρ x1_c4) h7).trans hA_4
        exact wL57 y2_4 _ _ _ hF hw hS (kh_sub hl [2] rfl)
      · have hF := kh_iff hF c_5
        refine lv_iload_n C.1 C.2.1 dX5_wayOf_21 rfl (kh_at hl 2 rfl) ?_
        refine lv_if_eq (tgt := 36) C.1 C.2.1 dX5_wayOf_22 (by decide) (fun c_6 => ?_) (fun c_6 => ?_)
        · have hF := kh_ift hF c_6
          exact wL36 y2_4 y3_4 _ _ _ hF hw hS (kh_sub hl [0, 1, 2, 3] rfl)
        · have hF := kh_iff hF c_6
          refine lv_iload_n C.1 C.2.1 dX5_wayOf_25 rfl (kh_at hl 3 rfl) ?_
          obtain ⟨r_7, h_7, hF⟩ := kh_bd_ok hF
          refine kh_calli (va_runS (As := [.int y3_4]) (rest := []) ⟨C.1, C.2.1, C.2.2.1, C.2.2.2.1, C.2.2.2.2.1⟩ (c_X5_count l D ca A ad ρ y3_4 h_7) (va_cwS 1 C.2.2.2.2.1 gX5_wayOf_X5_count rfl rfl rfl (by decide +kernel) ⟨Nat.le_of_ble_eq_true rfl, Nat.le_of_ble_eq_true rfl⟩) (kh_preS C hw hS) rfl rfl hl.1.1 rfl (lv_room (kh_sum kh_an (Nat.le_of_ble_eq_true rfl))) dX5_wayOf_26 ⟨Nat.le_of_ble_eq_true rfl, Nat.le_of_ble_eq_true rfl⟩) hS (kh_mp h_7) (fun H locs hw hS => ?_)
          refine lv_iload_n C.1 C.2.1 dX5_wayOf_29 rfl (kh_at hl 2 rfl) ?_
          obtain ⟨r_8, h_8, hF⟩ := kh_bd_ok hF
          refine kh_calli (va_runS (As := [.int y2_4]) (rest := [.int r_7]) ⟨C.1, C.2.1, C.2.2.1, C.2.2.2.1, C.2.2.2.2.1⟩ (c_X5_count l D ca A ad ρ y2_4 h_8) (va_cwS 1 C.2.2.2.2.1 gX5_wayOf_X5_count rfl rfl rfl (by decide +kernel) ⟨Nat.le_of_ble_eq_true rfl, Nat.le_of_ble_eq_true rfl⟩) (kh_preS C hw hS) rfl rfl hl.1.1 rfl (lv_room (kh_sum (kh_ac rfl kh_an) (Nat.le_of_ble_eq_true rfl))) dX5_wayOf_30 ⟨Nat.le_of_ble_eq_true rfl, Nat.le_of_ble_eq_true rfl⟩) hS (kh_mp h_8) (fun H locs hw hS => ?_)
          refine lv_icmp_ge (tgt := 49) C.1 C.2.1 dX5_wayOf_33 (by decide) (fun c_9 => ?_) (fun c_9 => ?_)
          · have hF := kh_ift hF c_9
            exact wL49 y2_4 y3_4 _ _ _ hF hw hS (kh_sub hl [0, 1, 2, 3] rfl)
          · have hF := kh_iff hF c_9
            exact wL36 y2_4 y3_4 _ _ _ hF hw hS (kh_sub hl [0, 1, 2, 3] rfl)
  refine lv_iconst (v := (0 : Int32)) C.1 C.2.1 dX5_wayOf_0 (by decide) ?_
  refine kh_istore_n (lv' := [(2, .int (0 : Int32)), (0, .ref (ad 15 0)), (1, .int x1)]) C.1 C.2.1 dX5_wayOf_1 rfl hl (by decide) rfl (fun ls hl => ?_)
  refine lv_iconst (v := (1 : Int32)) C.1 C.2.1 dX5_wayOf_2 (by decide) ?_
  refine kh_istore_n (lv' := [(3, .int (1 : Int32)), (2, .int (0 : Int32)), (0, .ref (ad 15 0)), (1, .int x1)]) C.1 C.2.1 dX5_wayOf_3 rfl hl (by decide) rfl (fun ls hl => ?_)
  obtain ⟨b_4, hb_4, hF⟩ := kh_bd_ok hF
  exact wB4 x1 b_4 hF _ (0 : Int32) (1 : Int32) _ _ _ hb_4 hw hS (kh_sub hl [2, 3, 1, 0] rfl)

def f_X5_left (ρ : kh_S) (x1 : Int32) : Option (Int32) := kh_gd (kh_in x1 30) (some (((60 : Int32) - (ρ 40 0 0 x1.toNatClampNeg)) - ((ρ 15 1 0 0) - (ρ 39 0 0 x1.toNatClampNeg))))
set_option maxHeartbeats 4000000 in
set_option maxRecDepth 100000 in
theorem c_X5_left (l : Launch) (D : va_G) (ca : Nat → ClassId) (A : Nat → Prop) (ad : Nat → Nat → Nat) (ρ : kh_S) (x1 : Int32) {q0 : Int32} (hF0 : f_X5_left ρ x1 = some q0) : Met l yX5_left wsX5_left ({ frames := 0, cells := 0, slots := 0, locals := 0 } : Room) (va_Pc [.ref (ad 15 0), .int x1] (kh_I D ca A ad ρ)) (kh_Qi D ca A ad (kh_pu (f_X5_left ρ x1) ρ)) 0 0 A := by
  refine Met.ofW (cc := cX5_left) (maxL := 2) (ret := (some .int)) (by decide) rfl ?_
  intro p e s m args below meth c s₁ B hml hv
  obtain ⟨rfl, hK, hw, hA⟩ := hv
  have C : kh_C p s m ([.ref (ad 15 0), .int x1]).toArray c cX5_left 2 RX5 wsX5_left D ca A := ⟨B.exec, B.bytes, hml, findClass_of_methodNamed B.named, atoms_spec (ws := wsX5_left) B.pre, hK, hA⟩
  have hr := B.returns
  have hlocks := B.notSynchronized
  have hS : va_S A s.heap s.heap [] := va_S.rf
  have hl := kh_entry ([.ref (ad 15 0), .int x1]) (n := 2) (kh_ac rfl (kh_ac rfl kh_an)) (Nat.le_of_ble_eq_true rfl)
  rw [lg_entry_eq]
  generalize (lg_sl ([.ref (ad 15 0), .int x1]) ++ List.replicate (2 - (lg_sl ([.ref (ad 15 0), .int x1])).length) Slot.unset).toArray = ls at hl ⊢
  have hl : kh_lv ls 2 [(0, .ref (ad 15 0)), (1, .int x1)] := hl
  have k_55 := C.2.2.2.2.1 (.fieldLink RX5 55 "KeylessHallModel" "cost" "[I") (by decide +kernel)
  have k_141 := C.2.2.2.2.1 (.fieldLink RX5 141 "KeylessHallModel" "minute" "I") (by decide +kernel)
  have k_52 := C.2.2.2.2.1 (.fieldLink RX5 52 "KeylessHallModel" "came" "[I") (by decide +kernel)
  have hF := hF0
  unfold f_X5_left at hF
  refine lv_bipush (v := (60 : Int32)) C.1 C.2.1 dX5_left_0 (by decide) ?_
  refine lv_aload_n C.1 C.2.1 dX5_left_2 rfl (kh_at hl 0 rfl) ?_
  refine kh_get C hw 15 20 rfl (kh_z15 ρ) kh_kd15 (Cn := RX5) (T := TX5) (N := 33) rfl (Nat.le_of_ble_eq_true rfl) k_55 (kf_15_20 ad ρ 0) dX5_left_3 ?_
  refine lv_iload_n C.1 C.2.1 dX5_left_6 rfl (kh_at hl 1 rfl) ?_
  obtain ⟨g_1, hF⟩ := kh_gd_ok hF
  refine kh_iald C hw 40 rfl (kh_z40 ρ) kh_kd40 g_1 dX5_left_7 ?_
  refine lv_isub C.1 C.2.1 dX5_left_8 ?_
  refine lv_aload_n C.1 C.2.1 dX5_left_9 rfl (kh_at hl 0 rfl) ?_
  refine kh_get C hw 15 1 rfl (kh_z15 ρ) kh_kd15 (Cn := RX5) (T := TX5) (N := 33) rfl (Nat.le_of_ble_eq_true rfl) k_141 (kf_15_1 ad ρ 0) dX5_left_10 ?_
  refine lv_aload_n C.1 C.2.1 dX5_left_13 rfl (kh_at hl 0 rfl) ?_
  refine kh_get C hw 15 19 rfl (kh_z15 ρ) kh_kd15 (Cn := RX5) (T := TX5) (N := 33) rfl (Nat.le_of_ble_eq_true rfl) k_52 (kf_15_19 ad ρ 0) dX5_left_14 ?_
  refine lv_iload_n C.1 C.2.1 dX5_left_17 rfl (kh_at hl 1 rfl) ?_
  refine kh_iald C hw 39 rfl (kh_z39 ρ) kh_kd39 g_1 dX5_left_18 ?_
  refine lv_isub C.1 C.2.1 dX5_left_19 ?_
  refine lv_isub C.1 C.2.1 dX5_left_20 ?_
  exact W.iret (v := ((60 : Int32) - (ρ 40 0 0 x1.toNatClampNeg)) - ((ρ 15 1 0 0) - (ρ 39 0 0 x1.toNatClampNeg))) C.1 C.2.1 hr (fun t ht hW => ⟨⟨((60 : Int32) - (ρ 40 0 0 x1.toNatClampNeg)) - ((ρ 15 1 0 0) - (ρ 39 0 0 x1.toNatClampNeg)), ρ, rfl, kh_mp (hF0.trans hF.symm), kh_bk ht hw⟩, hS.F ht⟩) hS.2.2 dX5_left_21

def f_X5_hint_L155 (ρ_155 : kh_S) (x4_155 : Int32) : Option (Int32 × kh_S) := some (x4_155, ρ_155)
def f_X5_hint_L90 (ρ_90 : kh_S) (x1_90 : Int32) (x4_90 : Int32) : Option (Int32 × kh_S) := kh_gd (kh_in x1_90 30) (kh_gd (kh_in (((8 : Int32) * x1_90) + x4_90) 240) (kh_bd (f_X5_left (kh_up (kh_up (kh_up ρ_90 40 0 0 x1_90.toNatClampNeg ((ρ_90 40 0 0 x1_90.toNatClampNeg) + ((2 : Int32) + ((3 : Int32) * (ρ_90 42 0 0 (((8 : Int32) * x1_90) + x4_90).toNatClampNeg))))) 42 0 0 (((8 : Int32) * x1_90) + x4_90).toNatClampNeg (((kh_up ρ_90 40 0 0 x1_90.toNatClampNeg ((ρ_90 40 0 0 x1_90.toNatClampNeg) + ((2 : Int32) + ((3 : Int32) * (ρ_90 42 0 0 (((8 : Int32) * x1_90) + x4_90).toNatClampNeg))))) 42 0 0 (((8 : Int32) * x1_90) + x4_90).toNatClampNeg) + (1 : Int32))) 41 0 0 x1_90.toNatClampNeg (((kh_up (kh_up ρ_90 40 0 0 x1_90.toNatClampNeg ((ρ_90 40 0 0 x1_90.toNatClampNeg) + ((2 : Int32) + ((3 : Int32) * (ρ_90 42 0 0 (((8 : Int32) * x1_90) + x4_90).toNatClampNeg))))) 42 0 0 (((8 : Int32) * x1_90) + x4_90).toNatClampNeg (((kh_up ρ_90 40 0 0 x1_90.toNatClampNeg ((ρ_90 40 0 0 x1_90.toNatClampNeg) + ((2 : Int32) + ((3 : Int32) * (ρ_90 42 0 0 (((8 : Int32) * x1_90) + x4_90).toNatClampNeg))))) 42 0 0 (((8 : Int32) * x1_90) + x4_90).toNatClampNeg) + (1 : Int32))) 41 0 0 x1_90.toNatClampNeg) + (1 : Int32))) x1_90) (fun r_3 => if 0 < r_3 then f_X5_hint_L155 (kh_up (kh_up (kh_up ρ_90 40 0 0 x1_90.toNatClampNeg ((ρ_90 40 0 0 x1_90.toNatClampNeg) + ((2 : Int32) + ((3 : Int32) * (ρ_90 42 0 0 (((8 : Int32) * x1_90) + x4_90).toNatClampNeg))))) 42 0 0 (((8 : Int32) * x1_90) + x4_90).toNatClampNeg (((kh_up ρ_90 40 0 0 x1_90.toNatClampNeg ((ρ_90 40 0 0 x1_90.toNatClampNeg) + ((2 : Int32) + ((3 : Int32) * (ρ_90 42 0 0 (((8 : Int32) * x1_90) + x4_90).toNatClampNeg))))) 42 0 0 (((8 : Int32) * x1_90) + x4_90).toNatClampNeg) + (1 : Int32))) 41 0 0 x1_90.toNatClampNeg (((kh_up (kh_up ρ_90 40 0 0 x1_90.toNatClampNeg ((ρ_90 40 0 0 x1_90.toNatClampNeg) + ((2 : Int32) + ((3 : Int32) * (ρ_90 42 0 0 (((8 : Int32) * x1_90) + x4_90).toNatClampNeg))))) 42 0 0 (((8 : Int32) * x1_90) + x4_90).toNatClampNeg (((kh_up ρ_90 40 0 0 x1_90.toNatClampNeg ((ρ_90 40 0 0 x1_90.toNatClampNeg) + ((2 : Int32) + ((3 : Int32) * (ρ_90 42 0 0 (((8 : Int32) * x1_90) + x4_90).toNatClampNeg))))) 42 0 0 (((8 : Int32) * x1_90) + x4_90).toNatClampNeg) + (1 : Int32))) 41 0 0 x1_90.toNatClampNeg) + (1 : Int32))) x4_90 else kh_bd (f_X5_leaves (kh_up (kh_up (kh_up ρ_90 40 0 0 x1_90.toNatClampNeg ((ρ_90 40 0 0 x1_90.toNatClampNeg) + ((2 : Int32) + ((3 : Int32) * (ρ_90 42 0 0 (((8 : Int32) * x1_90) + x4_90).toNatClampNeg))))) 42 0 0 (((8 : Int32) * x1_90) + x4_90).toNatClampNeg (((kh_up ρ_90 40 0 0 x1_90.toNatClampNeg ((ρ_90 40 0 0 x1_90.toNatClampNeg) + ((2 : Int32) + ((3 : Int32) * (ρ_90 42 0 0 (((8 : Int32) * x1_90) + x4_90).toNatClampNeg))))) 42 0 0 (((8 : Int32) * x1_90) + x4_90).toNatClampNeg) + (1 : Int32))) 41 0 0 x1_90.toNatClampNeg (((kh_up (kh_up ρ_90 40 0 0 x1_90.toNatClampNeg ((ρ_90 40 0 0 x1_90.toNatClampNeg) + ((2 : Int32) + ((3 : Int32) * (ρ_90 42 0 0 (((8 : Int32) * x1_90) + x4_90).toNatClampNeg))))) 42 0 0 (((8 : Int32) * x1_90) + x4_90).toNatClampNeg (((kh_up ρ_90 40 0 0 x1_90.toNatClampNeg ((ρ_90 40 0 0 x1_90.toNatClampNeg) + ((2 : Int32) + ((3 : Int32) * (ρ_90 42 0 0 (((8 : Int32) * x1_90) + x4_90).toNatClampNeg))))) 42 0 0 (((8 : Int32) * x1_90) + x4_90).toNatClampNeg) + (1 : Int32))) 41 0 0 x1_90.toNatClampNeg) + (1 : Int32))) x1_90 (2 : Int32)) (fun ρ_5 => f_X5_hint_L155 ρ_5 x4_90))))
def f_X5_hint_L82 (σ_50 : kh_S) (x1_c50 : Int32) (x3_c50 : Int32) (x5_82 : Int32) (t0_82 : Int32) : Option ((Int32 × Int32) ⊕ (Int32)) := some (.inl (t0_82, x5_82 + (-1 : Int32)))
def f_X5_hint_L80 (σ_50 : kh_S) (x1_c50 : Int32) (x3_c50 : Int32) (x4_80 : Int32) (x5_80 : Int32) : Option ((Int32 × Int32) ⊕ (Int32)) := f_X5_hint_L82 σ_50 x1_c50 x3_c50 x5_80 x4_80
def f_X5_hint_B50 (σ_50 : kh_S) (x1_c50 : Int32) (x3_c50 : Int32) (y4_50 : Int32) (y5_50 : Int32) : Option ((Int32 × Int32) ⊕ (Int32)) := if y5_50 < 0 then some (.inr y4_50) else if ((x3_c50 >>> (y5_50 &&& 31)) &&& (1 : Int32)) = (1 : Int32) then kh_bd (f_X5_maySolve σ_50 x1_c50 y5_50) (fun r_8 => if r_8 = 0 then f_X5_hint_L80 σ_50 x1_c50 x3_c50 y4_50 y5_50 else f_X5_hint_L82 σ_50 x1_c50 x3_c50 y5_50 y5_50) else f_X5_hint_L80 σ_50 x1_c50 x3_c50 y4_50 y5_50
def f_X5_hint_A50 (σ_50 : kh_S) (x1_c50 : Int32) (x3_c50 : Int32) : (Int32) → Option (Int32 × kh_S) := (fun u : Int32 => f_X5_hint_L90 σ_50 x1_c50 u)
def f_X5_hint_L29 (ρ_29 : kh_S) (x1_29 : Int32) (t1_29 : Int32) : Option (Int32 × kh_S) := kh_bd2 (f_X5_refused ρ_29 t1_29) (fun r_10 ρ_10 => if r_10 = 0 then kh_bd (f_X5_wayOf ρ_10 x1_29) (fun r_12 => kh_bd (kh_lp (fun a : Int32 × Int32 => f_X5_hint_B50 ρ_10 x1_29 r_12 a.1 a.2) 9999 ((-1 : Int32), (7 : Int32))) (f_X5_hint_A50 ρ_10 x1_29 r_12)) else some ((0 : Int32), ρ_10))
def f_X5_hint (ρ : kh_S) (x1 : Int32) : Option (Int32 × kh_S) := kh_bd (f_X5_isGroup ρ x1) (fun r_13 => if r_13 = 0 then f_X5_hint_L29 ρ x1 (1 : Int32) else kh_gd (kh_in x1 30) (if (ρ 35 0 0 x1.toNatClampNeg) = 0 then f_X5_hint_L29 ρ x1 (0 : Int32) else f_X5_hint_L29 ρ x1 (2 : Int32)))
set_option maxHeartbeats 4000000 in
set_option maxRecDepth 100000 in
theorem c_X5_hint (l : Launch) (D : va_G) (ca : Nat → ClassId) (A : Nat → Prop) (ad : Nat → Nat → Nat) (ρ : kh_S) (x1 : Int32) {q0 : Int32 × kh_S} (hF0 : f_X5_hint ρ x1 = some q0) : Met l yX5_hint wsX5_hint ({ frames := 3, cells := 0, slots := 0, locals := 77 } : Room) (va_Pc [.ref (ad 15 0), .int x1] (kh_I D ca A ad ρ)) (kh_Qi D ca A ad (f_X5_hint ρ x1)) 0 0 A := by
  refine Met.ofW (cc := cX5_hint) (maxL := 6) (ret := (some .int)) (by decide) rfl ?_
  intro p e s m args below meth c s₁ B hml hv
  obtain ⟨rfl, hK, hw, hA⟩ := hv
  have C : kh_C p s m ([.ref (ad 15 0), .int x1]).toArray c cX5_hint 6 RX5 wsX5_hint D ca A := ⟨B.exec, B.bytes, hml, findClass_of_methodNamed B.named, atoms_spec (ws := wsX5_hint) B.pre, hK, hA⟩
  have hr := B.returns
  have hlocks := B.notSynchronized
  have hS : va_S A s.heap s.heap [] := va_S.rf
  have hl := kh_entry ([.ref (ad 15 0), .int x1]) (n := 6) (kh_ac rfl (kh_ac rfl kh_an)) (Nat.le_of_ble_eq_true rfl)
  rw [lg_entry_eq]
  generalize (lg_sl ([.ref (ad 15 0), .int x1]) ++ List.replicate (6 - (lg_sl ([.ref (ad 15 0), .int x1])).length) Slot.unset).toArray = ls at hl ⊢
  have hl : kh_lv ls 6 [(0, .ref (ad 15 0)), (1, .int x1)] := hl
  have k_55 := C.2.2.2.2.1 (.fieldLink RX5 55 "KeylessHallModel" "cost" "[I") (by decide +kernel)
  have k_61 := C.2.2.2.2.1 (.fieldLink RX5 61 "KeylessHallModel" "hintsFor" "[I") (by decide +kernel)
  have k_58 := C.2.2.2.2.1 (.fieldLink RX5 58 "KeylessHallModel" "hintsGot" "[I") (by decide +kernel)
  have k_40 := C.2.2.2.2.1 (.fieldLink RX5 40 "KeylessHallModel" "how" "[I") (by decide +kernel)
  have hF := hF0
  unfold f_X5_hint at hF
  have wL155 : ∀ (ρ_155 : kh_S) (x4_155 : Int32) (H : Heap) (locs : List Loc) (ls : Array Slot), f_X5_hint_L155 ρ_155 x4_155 = some q0 → kh_w D ca A ad ρ_155 H → va_S A s.heap H locs → kh_lv ls 6 [(4, .int x4_155)] → W p l e (headSpec wsX5_hint ({ frames := 3, cells := 0, slots := 0, locals := 77 } : Room)).room s m ([.ref (ad 15 0), .int x1]).toArray below meth c H locs 0 0 (MQ below (kh_Qi D ca A ad (f_X5_hint ρ x1)) ([.ref (ad 15 0), .int x1]).toArray s 0 0 A) (F0 m 155 ls []) := by
    intro ρ_155 x4_155 H locs ls hF hw hS hl
    unfold f_X5_hint_L155 at hF
    refine lv_iload C.1 C.2.1 dX5_hint_155 (kh_at hl 0 rfl) ?_
    exact W.iret (v := x4_155) C.1 C.2.1 hr (fun t ht hW => ⟨⟨x4_155, ρ_155, rfl, hF0.trans hF.symm, kh_bk ht hw⟩, hS.F ht⟩) hS.2.2 dX5_hint_157
  have wL90 : ∀ (ρ_90 : kh_S) (x1_90 : Int32) (x4_90 : Int32) (H : Heap) (locs : List Loc) (ls : Array Slot), f_X5_hint_L90 ρ_90 x1_90 x4_90 = some q0 → kh_w D ca A ad ρ_90 H → va_S A s.heap H locs → kh_lv ls 6 [(0, .ref (ad 15 0)), (1, .int x1_90), (4, .int x4_90)] → W p l e (headSpec wsX5_hint ({ frames := 3, cells := 0, slots := 0, locals := 77 } : Room)).room s m ([.ref (ad 15 0), .int x1]).toArray below meth c H locs 0 0 (MQ below (kh_Qi D ca A ad (f_X5_hint ρ x1)) ([.ref (ad 15 0), .int x1]).toArray s 0 0 A) (F0 m 90 ls []) := by
    intro ρ_90 x1_90 x4_90 H locs ls hF hw hS hl
    unfold f_X5_hint_L90 at hF
    refine lv_aload_n C.1 C.2.1 dX5_hint_90 rfl (kh_at hl 0 rfl) ?_
    refine kh_get C hw 15 20 rfl (kh_z15 ρ_90) kh_kd15 (Cn := RX5) (T := TX5) (N := 33) rfl (Nat.le_of_ble_eq_true rfl) k_55 (kf_15_20 ad ρ_90 0) dX5_hint_91 ?_
    refine lv_iload_n C.1 C.2.1 dX5_hint_94 rfl (kh_at hl 1 rfl) ?_
    refine lv_dup2_11 C.1 C.2.1 dX5_hint_95 rfl rfl ?_
    obtain ⟨g_1, hF⟩ := kh_gd_ok hF
    refine kh_iald C hw 40 rfl (kh_z40 ρ_90) kh_kd40 g_1 dX5_hint_96 ?_
    refine lv_iconst (v := (2 : Int32)) C.1 C.2.1 dX5_hint_97 (by decide) ?_
    refine lv_iconst (v := (3 : Int32)) C.1 C.2.1 dX5_hint_98 (by decide) ?_
    refine lv_aload_n C.1 C.2.1 dX5_hint_99 rfl (kh_at hl 0 rfl) ?_
    refine kh_get C hw 15 22 rfl (kh_z15 ρ_90) kh_kd15 (Cn := RX5) (T := TX5) (N := 33) rfl (Nat.le_of_ble_eq_true rfl) k_61 (kf_15_22 ad ρ_90 0) dX5_hint_100 ?_
    refine lv_bipush (v := (8 : Int32)) C.1 C.2.1 dX5_hint_103 (by decide) ?_
    refine lv_iload_n C.1 C.2.1 dX5_hint_105 rfl (kh_at hl 1 rfl) ?_
    refine lv_imul C.1 C.2.1 dX5_hint_106 ?_
    refine lv_iload C.1 C.2.1 dX5_hint_107 (kh_at hl 2 rfl) ?_
    refine lv_iadd C.1 C.2.1 dX5_hint_109 ?_
    obtain ⟨g_2, hF⟩ := kh_gd_ok hF
    refine kh_iald C hw 42 rfl (kh_z42 ρ_90) kh_kd42 g_2 dX5_hint_110 ?_
    refine lv_imul C.1 C.2.1 dX5_hint_111 ?_
    refine lv_iadd C.1 C.2.1 dX5_hint_112 ?_
    refine lv_iadd C.1 C.2.1 dX5_hint_113 ?_
    refine kh_iast C hw hS 40 rfl (kh_z40 ρ_90) (by decide) kh_kd40 g_1 dX5_hint_114 (fun H locs hw hS => ?_)
    refine lv_aload_n C.1 C.2.1 dX5_hint_115 rfl (kh_at hl 0 rfl) ?_
    refine kh_get C hw 15 22 rfl (kh_z15 (kh_up ρ_90 40 0 0 x1_90.toNatClampNeg ((ρ_90 40 0 0 x1_90.toNatClampNeg) + ((2 : Int32) + ((3 : Int32) * (ρ_90 42 0 0 (((8 : Int32) * x1_90) + x4_90).toNatClampNeg)))))) kh_kd15 (Cn := RX5) (T := TX5) (N := 33) rfl (Nat.le_of_ble_eq_true rfl) k_61 (kf_15_22 ad (kh_up ρ_90 40 0 0 x1_90.toNatClampNeg ((ρ_90 40 0 0 x1_90.toNatClampNeg) + ((2 : Int32) + ((3 : Int32) * (ρ_90 42 0 0 (((8 : Int32) * x1_90) + x4_90).toNatClampNeg))))) 0) dX5_hint_116 ?_
    refine lv_bipush (v := (8 : Int32)) C.1 C.2.1 dX5_hint_119 (by decide) ?_
    refine lv_iload_n C.1 C.2.1 dX5_hint_121 rfl (kh_at hl 1 rfl) ?_
    refine lv_imul C.1 C.2.1 dX5_hint_122 ?_
    refine lv_iload C.1 C.2.1 dX5_hint_123 (kh_at hl 2 rfl) ?_
    refine lv_iadd C.1 C.2.1 dX5_hint_125 ?_
    refine lv_dup2_11 C.1 C.2.1 dX5_hint_126 rfl rfl ?_
    refine kh_iald C hw 42 rfl (kh_z42 (kh_up ρ_90 40 0 0 x1_90.toNatClampNeg ((ρ_90 40 0 0 x1_90.toNatClampNeg) + ((2 : Int32) + ((3 : Int32) * (ρ_90 42 0 0 (((8 : Int32) * x1_90) + x4_90).toNatClampNeg)))))) kh_kd42 g_2 dX5_hint_127 ?_
    refine lv_iconst (v := (1 : Int32)) C.1 C.2.1 dX5_hint_128 (by decide) ?_
    refine lv_iadd C.1 C.2.1 dX5_hint_129 ?_
    refine kh_iast C hw hS 42 rfl (kh_z42 (kh_up ρ_90 40 0 0 x1_90.toNatClampNeg ((ρ_90 40 0 0 x1_90.toNatClampNeg) + ((2 : Int32) + ((3 : Int32) * (ρ_90 42 0 0 (((8 : Int32) * x1_90) + x4_90).toNatClampNeg)))))) (by decide) kh_kd42 g_2 dX5_hint_130 (fun H locs hw hS => ?_)
    refine lv_aload_n C.1 C.2.1 dX5_hint_131 rfl (kh_at hl 0 rfl) ?_
    refine kh_get C hw 15 21 rfl (kh_z15 (kh_up (kh_up ρ_90 40 0 0 x1_90.toNatClampNeg ((ρ_90 40 0 0 x1_90.toNatClampNeg) + ((2 : Int32) + ((3 : Int32) * (ρ_90 42 0 0 (((8 : Int32) * x1_90) + x4_90).toNatClampNeg))))) 42 0 0 (((8 : Int32) * x1_90) + x4_90).toNatClampNeg (((kh_up ρ_90 40 0 0 x1_90.toNatClampNeg ((ρ_90 40 0 0 x1_90.toNatClampNeg) + ((2 : Int32) + ((3 : Int32) * (ρ_90 42 0 0 (((8 : Int32) * x1_90) + x4_90).toNatClampNeg))))) 42 0 0 (((8 : Int32) * x1_90) + x4_90).toNatClampNeg) + (1 : Int32)))) kh_kd15 (Cn := RX5) (T := TX5) (N := 33) rfl (Nat.le_of_ble_eq_true rfl) k_58 (kf_15_21 ad (kh_up (kh_up ρ_90 40 0 0 x1_90.toNatClampNeg ((ρ_90 40 0 0 x1_90.toNatClampNeg) + ((2 : Int32) + ((3 : Int32) * (ρ_90 42 0 0 (((8 : Int32) * x1_90) + x4_90).toNatClampNeg))))) 42 0 0 (((8 : Int32) * x1_90) + x4_90).toNatClampNeg (((kh_up ρ_90 40 0 0 x1_90.toNatClampNeg ((ρ_90 40 0 0 x1_90.toNatClampNeg) + ((2 : Int32) + ((3 : Int32) * (ρ_90 42 0 0 (((8 : Int32) * x1_90) + x4_90).toNatClampNeg))))) 42 0 0 (((8 : Int32) * x1_90) + x4_90).toNatClampNeg) + (1 : Int32))) 0) dX5_hint_132 ?_
    refine lv_iload_n C.1 C.2.1 dX5_hint_135 rfl (kh_at hl 1 rfl) ?_
    refine lv_dup2_11 C.1 C.2.1 dX5_hint_136 rfl rfl ?_
    refine kh_iald C hw 41 rfl (kh_z41 (kh_up (kh_up ρ_90 40 0 0 x1_90.toNatClampNeg ((ρ_90 40 0 0 x1_90.toNatClampNeg) + ((2 : Int32) + ((3 : Int32) * (ρ_90 42 0 0 (((8 : Int32) * x1_90) + x4_90).toNatClampNeg))))) 42 0 0 (((8 : Int32) * x1_90) + x4_90).toNatClampNeg (((kh_up ρ_90 40 0 0 x1_90.toNatClampNeg ((ρ_90 40 0 0 x1_90.toNatClampNeg) + ((2 : Int32) + ((3 : Int32) * (ρ_90 42 0 0 (((8 : Int32) * x1_90) + x4_90).toNatClampNeg))))) 42 0 0 (((8 : Int32) * x1_90) + x4_90).toNatClampNeg) + (1 : Int32)))) kh_kd41 g_1 dX5_hint_137 ?_
    refine lv_iconst (v := (1 : Int32)) C.1 C.2.1 dX5_hint_138 (by decide) ?_
    refine lv_iadd C.1 C.2.1 dX5_hint_139 ?_
    refine kh_iast C hw hS 41 rfl (kh_z41 (kh_up (kh_up ρ_90 40 0 0 x1_90.toNatClampNeg ((ρ_90 40 0 0 x1_90.toNatClampNeg) + ((2 : Int32) + ((3 : Int32) * (ρ_90 42 0 0 (((8 : Int32) * x1_90) + x4_90).toNatClampNeg))))) 42 0 0 (((8 : Int32) * x1_90) + x4_90).toNatClampNeg (((kh_up ρ_90 40 0 0 x1_90.toNatClampNeg ((ρ_90 40 0 0 x1_90.toNatClampNeg) + ((2 : Int32) + ((3 : Int32) * (ρ_90 42 0 0 (((8 : Int32) * x1_90) + x4_90).toNatClampNeg))))) 42 0 0 (((8 : Int32) * x1_90) + x4_90).toNatClampNeg) + (1 : Int32)))) (by decide) kh_kd41 g_1 dX5_hint_140 (fun H locs hw hS => ?_)
    refine lv_aload_n C.1 C.2.1 dX5_hint_141 rfl (kh_at hl 0 rfl) ?_
    refine lv_iload_n C.1 C.2.1 dX5_hint_142 rfl (kh_at hl 1 rfl) ?_
    obtain ⟨r_3, h_3, hF⟩ := kh_bd_ok hF
    refine kh_calli (va_runV (As := [.int x1_90]) (rest := []) ⟨C.1, C.2.1, C.2.2.1, C.2.2.2.1, C.2.2.2.2.1⟩ (c_X5_left l D ca A ad (kh_up (kh_up (kh_up ρ_90 40 0 0 x1_90.toNatClampNeg ((ρ_90 40 0 0 x1_90.toNatClampNeg) + ((2 : Int32) + ((3 : Int32) * (ρ_90 42 0 0 (((8 : Int32) * x1_90) + x4_90).toNatClampNeg))))) 42 0 0 (((8 : Int32) * x1_90) + x4_90).toNatClampNeg (((kh_up ρ_90 40 0 0 x1_90.toNatClampNeg ((ρ_90 40 0 0 x1_90.toNatClampNeg) + ((2 : Int32) + ((3 : Int32) * (ρ_90 42 0 0 (((8 : Int32) * x1_90) + x4_90).toNatClampNeg))))) 42 0 0 (((8 : Int32) * x1_90) + x4_90).toNatClampNeg) + (1 : Int32))) 41 0 0 x1_90.toNatClampNeg (((kh_up (kh_up ρ_90 40 0 0 x1_90.toNatClampNeg ((ρ_90 40 0 0 x1_90.toNatClampNeg) + ((2 : Int32) + ((3 : Int32) * (ρ_90 42 0 0 (((8 : Int32) * x1_90) + x4_90).toNatClampNeg))))) 42 0 0 (((8 : Int32) * x1_90) + x4_90).toNatClampNeg (((kh_up ρ_90 40 0 0 x1_90.toNatClampNeg ((ρ_90 40 0 0 x1_90.toNatClampNeg) + ((2 : Int32) + ((3 : Int32) * (ρ_90 42 0 0 (((8 : Int32) * x1_90) + x4_90).toNatClampNeg))))) 42 0 0 (((8 : Int32) * x1_90) + x4_90).toNatClampNeg) + (1 : Int32))) 41 0 0 x1_90.toNatClampNeg) + (1 : Int32))) x1_90 h_3) (cwV 1 C.2.2.2.2.1 gX5_hint_X5_left rfl rfl rfl (by decide +kernel) ⟨Nat.le_of_ble_eq_true rfl, Nat.le_of_ble_eq_true rfl⟩) (kh_preV C hw hS 15 (kh_z15 (kh_up (kh_up (kh_up ρ_90 40 0 0 x1_90.toNatClampNeg ((ρ_90 40 0 0 x1_90.toNatClampNeg) + ((2 : Int32) + ((3 : Int32) * (ρ_90 42 0 0 (((8 : Int32) * x1_90) + x4_90).toNatClampNeg))))) 42 0 0 (((8 : Int32) * x1_90) + x4_90).toNatClampNeg (((kh_up ρ_90 40 0 0 x1_90.toNatClampNeg ((ρ_90 40 0 0 x1_90.toNatClampNeg) + ((2 : Int32) + ((3 : Int32) * (ρ_90 42 0 0 (((8 : Int32) * x1_90) + x4_90).toNatClampNeg))))) 42 0 0 (((8 : Int32) * x1_90) + x4_90).toNatClampNeg) + (1 : Int32))) 41 0 0 x1_90.toNatClampNeg (((kh_up (kh_up ρ_90 40 0 0 x1_90.toNatClampNeg ((ρ_90 40 0 0 x1_90.toNatClampNeg) + ((2 : Int32) + ((3 : Int32) * (ρ_90 42 0 0 (((8 : Int32) * x1_90) + x4_90).toNatClampNeg))))) 42 0 0 (((8 : Int32) * x1_90) + x4_90).toNatClampNeg (((kh_up ρ_90 40 0 0 x1_90.toNatClampNeg ((ρ_90 40 0 0 x1_90.toNatClampNeg) + ((2 : Int32) + ((3 : Int32) * (ρ_90 42 0 0 (((8 : Int32) * x1_90) + x4_90).toNatClampNeg))))) 42 0 0 (((8 : Int32) * x1_90) + x4_90).toNatClampNeg) + (1 : Int32))) 41 0 0 x1_90.toNatClampNeg) + (1 : Int32)))) kh_kd15 rfl) rfl rfl hl.1.1 rfl (lv_room (kh_sum kh_an (Nat.le_of_ble_eq_true rfl))) dX5_hint_143 ⟨Nat.le_of_ble_eq_true rfl, Nat.le_of_ble_eq_true rfl⟩) hS (kh_mp h_3) (fun H locs hw hS => ?_)
    refine lv_if_gt (tgt := 155) C.1 C.2.1 dX5_hint_146 (by decide) (fun c_4 => ?_) (fun c_4 => ?_)
    · have hF := kh_ift hF c_4
      exact wL155 (kh_up (kh_up (kh_up ρ_90 40 0 0 x1_90.toNatClampNeg ((ρ_90 40 0 0 x1_90.toNatClampNeg) + ((2 : Int32) + ((3 : Int32) * (ρ_90 42 0 0 (((8 : Int32) * x1_90) + x4_90).toNatClampNeg))))) 42 0 0 (((8 : Int32) * x1_90) + x4_90).toNatClampNeg (((kh_up ρ_90 40 0 0 x1_90.toNatClampNeg ((ρ_90 40 0 0 x1_90.toNatClampNeg) + ((2 : Int32) + ((3 : Int32) * (ρ_90 42 0 0 (((8 : Int32) * x1_90) + x4_90).toNatClampNeg))))) 42 0 0 (((8 : Int32) * x1_90) + x4_90).toNatClampNeg) + (1 : Int32))) 41 0 0 x1_90.toNatClampNeg (((kh_up (kh_up ρ_90 40 0 0 x1_90.toNatClampNeg ((ρ_90 40 0 0 x1_90.toNatClampNeg) + ((2 : Int32) + ((3 : Int32) * (ρ_90 42 0 0 (((8 : Int32) * x1_90) + x4_90).toNatClampNeg))))) 42 0 0 (((8 : Int32) * x1_90) + x4_90).toNatClampNeg (((kh_up ρ_90 40 0 0 x1_90.toNatClampNeg ((ρ_90 40 0 0 x1_90.toNatClampNeg) + ((2 : Int32) + ((3 : Int32) * (ρ_90 42 0 0 (((8 : Int32) * x1_90) + x4_90).toNatClampNeg))))) 42 0 0 (((8 : Int32) * x1_90) + x4_90).toNatClampNeg) + (1 : Int32))) 41 0 0 x1_90.toNatClampNeg) + (1 : Int32))) x4_90 _ _ _ hF hw hS (kh_sub hl [2] rfl)
    · have hF := kh_iff hF c_4
      refine lv_aload_n C.1 C.2.1 dX5_hint_149 rfl (kh_at hl 0 rfl) ?_
      refine lv_iload_n C.1 C.2.1 dX5_hint_150 rfl (kh_at hl 1 rfl) ?_
      refine lv_iconst (v := (2 : Int32)) C.1 C.2.1 dX5_hint_151 (by decide) ?_
      obtain ⟨ρ_5, h_5, hF⟩ := kh_bd_ok hF
      refine kh_callv (va_runV (As := [.int x1_90, .int (2 : Int32)]) (rest := []) ⟨C.1, C.2.1, C.2.2.1, C.2.2.2.1, C.2.2.2.2.1⟩ (c_X5_leaves l D ca A ad (kh_up (kh_up (kh_up ρ_90 40 0 0 x1_90.toNatClampNeg ((ρ_90 40 0 0 x1_90.toNatClampNeg) + ((2 : Int32) + ((3 : Int32) * (ρ_90 42 0 0 (((8 : Int32) * x1_90) + x4_90).toNatClampNeg))))) 42 0 0 (((8 : Int32) * x1_90) + x4_90).toNatClampNeg (((kh_up ρ_90 40 0 0 x1_90.toNatClampNeg ((ρ_90 40 0 0 x1_90.toNatClampNeg) + ((2 : Int32) + ((3 : Int32) * (ρ_90 42 0 0 (((8 : Int32) * x1_90) + x4_90).toNatClampNeg))))) 42 0 0 (((8 : Int32) * x1_90) + x4_90).toNatClampNeg) + (1 : Int32))) 41 0 0 x1_90.toNatClampNeg (((kh_up (kh_up ρ_90 40 0 0 x1_90.toNatClampNeg ((ρ_90 40 0 0 x1_90.toNatClampNeg) + ((2 : Int32) + ((3 : Int32) * (ρ_90 42 0 0 (((8 : Int32) * x1_90) + x4_90).toNatClampNeg))))) 42 0 0 (((8 : Int32) * x1_90) + x4_90).toNatClampNeg (((kh_up ρ_90 40 0 0 x1_90.toNatClampNeg ((ρ_90 40 0 0 x1_90.toNatClampNeg) + ((2 : Int32) + ((3 : Int32) * (ρ_90 42 0 0 (((8 : Int32) * x1_90) + x4_90).toNatClampNeg))))) 42 0 0 (((8 : Int32) * x1_90) + x4_90).toNatClampNeg) + (1 : Int32))) 41 0 0 x1_90.toNatClampNeg) + (1 : Int32))) x1_90 (2 : Int32) h_5) (cwV 2 C.2.2.2.2.1 gX5_hint_X5_leaves rfl rfl rfl (by decide +kernel) ⟨Nat.le_of_ble_eq_true rfl, Nat.le_of_ble_eq_true rfl⟩) (kh_preV C hw hS 15 (kh_z15 (kh_up (kh_up (kh_up ρ_90 40 0 0 x1_90.toNatClampNeg ((ρ_90 40 0 0 x1_90.toNatClampNeg) + ((2 : Int32) + ((3 : Int32) * (ρ_90 42 0 0 (((8 : Int32) * x1_90) + x4_90).toNatClampNeg))))) 42 0 0 (((8 : Int32) * x1_90) + x4_90).toNatClampNeg (((kh_up ρ_90 40 0 0 x1_90.toNatClampNeg ((ρ_90 40 0 0 x1_90.toNatClampNeg) + ((2 : Int32) + ((3 : Int32) * (ρ_90 42 0 0 (((8 : Int32) * x1_90) + x4_90).toNatClampNeg))))) 42 0 0 (((8 : Int32) * x1_90) + x4_90).toNatClampNeg) + (1 : Int32))) 41 0 0 x1_90.toNatClampNeg (((kh_up (kh_up ρ_90 40 0 0 x1_90.toNatClampNeg ((ρ_90 40 0 0 x1_90.toNatClampNeg) + ((2 : Int32) + ((3 : Int32) * (ρ_90 42 0 0 (((8 : Int32) * x1_90) + x4_90).toNatClampNeg))))) 42 0 0 (((8 : Int32) * x1_90) + x4_90).toNatClampNeg (((kh_up ρ_90 40 0 0 x1_90.toNatClampNeg ((ρ_90 40 0 0 x1_90.toNatClampNeg) + ((2 : Int32) + ((3 : Int32) * (ρ_90 42 0 0 (((8 : Int32) * x1_90) + x4_90).toNatClampNeg))))) 42 0 0 (((8 : Int32) * x1_90) + x4_90).toNatClampNeg) + (1 : Int32))) 41 0 0 x1_90.toNatClampNeg) + (1 : Int32)))) kh_kd15 rfl) rfl rfl hl.1.1 rfl (lv_room (kh_sum kh_an (Nat.le_of_ble_eq_true rfl))) dX5_hint_152 ⟨Nat.le_of_ble_eq_true rfl, Nat.le_of_ble_eq_true rfl⟩) hS h_5 (fun H locs hw hS => ?_)
      exact wL155 ρ_5 x4_90 _ _ _ hF hw hS (kh_sub hl [2] rfl)
  have wB50 : ∀ (σ_50 : kh_S) (x1_c50 : Int32) (x3_c50 : Int32) (b : Int32), f_X5_hint_A50 σ_50 x1_c50 x3_c50 b = some q0 → ∀ (n : Nat) (y4_50 : Int32) (y5_50 : Int32) (H : Heap) (locs : List Loc) (ls : Array Slot), kh_lp (fun a : Int32 × Int32 => f_X5_hint_B50 σ_50 x1_c50 x3_c50 a.1 a.2) n (y4_50, y5_50) = some b → kh_w D ca A ad σ_50 H → va_S A s.heap H locs → kh_lv ls 6 [(0, .ref (ad 15 0)), (1, .int x1_c50), (3, .int x3_c50), (4, .int y4_50), (5, .int y5_50)] → W p l e (headSpec wsX5_hint ({ frames := 3, cells := 0, slots := 0, locals := 77 } : Room)).room s m ([.ref (ad 15 0), .int x1]).toArray below meth c H locs 0 0 (MQ below (kh_Qi D ca A ad (f_X5_hint ρ x1)) ([.ref (ad 15 0), .int x1]).toArray s 0 0 A) (F0 m 50 ls []) := by
    intro σ_50 x1_c50 x3_c50 b hA_50 n
    induction n with
    | zero => intro y4_50 y5_50 H locs ls h9; exact absurd h9 (fun z => nomatch z)
    | succ n ih_50 =>
      intro y4_50 y5_50 H locs ls hb_50 hw hS hl
      obtain ⟨q_50, hF, hb_50⟩ := kh_lp_ok hb_50
      have hF : f_X5_hint_B50 σ_50 x1_c50 x3_c50 y4_50 y5_50 = some q_50 := hF
      have wL82 : ∀ (x5_82 : Int32) (t0_82 : Int32) (H : Heap) (locs : List Loc) (ls : Array Slot), f_X5_hint_L82 σ_50 x1_c50 x3_c50 x5_82 t0_82 = some q_50 → kh_w D ca A ad σ_50 H → va_S A s.heap H locs → kh_lv ls 6 [(0, .ref (ad 15 0)), (1, .int x1_c50), (3, .int x3_c50), (5, .int x5_82)] → W p l e (headSpec wsX5_hint ({ frames := 3, cells := 0, slots := 0, locals := 77 } : Room)).room s m ([.ref (ad 15 0), .int x1]).toArray below meth c H locs 0 0 (MQ below (kh_Qi D ca A ad (f_X5_hint ρ x1)) ([.ref (ad 15 0), .int x1]).toArray s 0 0 A) (F0 m 82 ls [.int t0_82]) := by
        intro x5_82 t0_82 H locs ls hF hw hS hl
        unfold f_X5_hint_L82 at hF
        refine kh_istore (lv' := [(4, .int t0_82), (0, .ref (ad 15 0)), (1, .int x1_c50), (3, .int x3_c50), (5, .int x5_82)]) C.1 C.2.1 dX5_hint_82 hl (by decide) rfl (fun ls hl => ?_)
        refine kh_iinc (v := x5_82 + (-1 : Int32)) (lv' := [(5, .int (x5_82 + (-1 : Int32))), (4, .int t0_82), (0, .ref (ad 15 0)), (1, .int x1_c50), (3, .int x3_c50)]) C.1 C.2.1 dX5_hint_84 hl (k := 4) rfl (by rfl) (by decide) rfl (fun ls hl => ?_)
        refine lv_goto (tgt := 50) C.1 C.2.1 dX5_hint_87 (by decide) ?_
        have e9 := Option.some.inj hF
        rcases hb_50 with ⟨a9, h8, h9⟩ | h8
        · have h7 := Sum.inl.inj (e9.trans h8)
          subst h7
          exact ih_50 _ _ _ _ _ h9 hw hS (kh_sub hl [2, 3, 4, 1, 0] rfl)
        · exact absurd (e9.trans h8) (fun z => nomatch z)
      have wL80 : ∀ (x4_80 : Int32) (x5_80 : Int32) (H : Heap) (locs : List Loc) (ls : Array Slot), f_X5_hint_L80 σ_50 x1_c50 x3_c50 x4_80 x5_80 = some q_50 → kh_w D ca A ad σ_50 H → va_S A s.heap H locs → kh_lv ls 6 [(0, .ref (ad 15 0)), (1, .int x1_c50), (3, .int x3_c50), (4, .int x4_80), (5, .int x5_80)] → W p l e (headSpec wsX5_hint ({ frames := 3, cells := 0, slots := 0, locals := 77 } : Room)).room s m ([.ref (ad 15 0), .int x1]).toArray below meth c H locs 0 0 (MQ below (kh_Qi D ca A ad (f_X5_hint ρ x1)) ([.ref (ad 15 0), .int x1]).toArray s 0 0 A) (F0 m 80 ls []) := by
        intro x4_80 x5_80 H locs ls hF hw hS hl
        unfold f_X5_hint_L80 at hF
        refine lv_iload C.1 C.2.1 dX5_hint_80 (kh_at hl 3 rfl) ?_
        exact wL82 x5_80 x4_80 _ _ _ hF hw hS (kh_sub hl [0, 1, 2, 4] rfl)
      unfold f_X5_hint_B50 at hF
      refine lv_iload C.1 C.2.1 dX5_hint_50 (kh_at hl 4 rfl) ?_
      refine lv_if_lt (tgt := 90) C.1 C.2.1 dX5_hint_52 (by decide) (fun c_6 => ?_) (fun c_6 => ?_)
      · have hF := kh_ift hF c_6
        have e9 := Option.some.inj hF
        rcases hb_50 with ⟨a9, h8, h9⟩ | h8
        · exact absurd (e9.trans h8) (fun z => nomatch z)
        have h7 := Sum.inr.inj (e9.trans h8)
        have hF := (congrArg (f_X5_hint_A50 σ_50 x1_c50 x3_c50) h7).trans hA_50
        exact wL90 σ_50 x1_c50 y4_50 _ _ _ hF hw hS (kh_sub hl [0, 1, 3] rfl)
      · have hF := kh_iff hF c_6
        refine lv_iload_n C.1 C.2.1 dX5_hint_55 rfl (kh_at hl 2 rfl) ?_
        refine lv_iload C.1 C.2.1 dX5_hint_56 (kh_at hl 4 rfl) ?_
        refine lv_ishr C.1 C.2.1 dX5_hint_58 ?_
        refine lv_iconst (v := (1 : Int32)) C.1 C.2.1 dX5_hint_59 (by decide) ?_
        refine lv_iand C.1 C.2.1 dX5_hint_60 ?_
        refine lv_iconst (v := (1 : Int32)) C.1 C.2.1 dX5_hint_61 (by decide) ?_
        refine lv_icmp_ne (tgt := 80) C.1 C.2.1 dX5_hint_62 (by decide) (fun c_7 => ?_) (fun c_7 => ?_)
        · have hF := kh_iff hF c_7
          exact wL80 y4_50 y5_50 _ _ _ hF hw hS (kh_sub hl [0, 1, 2, 3, 4] rfl)
        · have hF := kh_ift hF c_7
          refine lv_aload_n C.1 C.2.1 dX5_hint_65 rfl (kh_at hl 0 rfl) ?_
          refine lv_iload_n C.1 C.2.1 dX5_hint_66 rfl (kh_at hl 1 rfl) ?_
          refine lv_iload C.1 C.2.1 dX5_hint_67 (kh_at hl 4 rfl) ?_
          obtain ⟨r_8, h_8, hF⟩ := kh_bd_ok hF
          refine kh_calli (va_runV (As := [.int x1_c50, .int y5_50]) (rest := []) ⟨C.1, C.2.1, C.2.2.1, C.2.2.2.1, C.2.2.2.2.1⟩ (c_X5_maySolve l D ca A ad σ_50 x1_c50 y5_50 h_8) (cwV 2 C.2.2.2.2.1 gX5_hint_X5_maySolve rfl rfl rfl (by decide +kernel) ⟨Nat.le_of_ble_eq_true rfl, Nat.le_of_ble_eq_true rfl⟩) (kh_preV C hw hS 15 (kh_z15 σ_50) kh_kd15 rfl) rfl rfl hl.1.1 rfl (lv_room (kh_sum kh_an (Nat.le_of_ble_eq_true rfl))) dX5_hint_69 ⟨Nat.le_of_ble_eq_true rfl, Nat.le_of_ble_eq_true rfl⟩) hS (kh_mp h_8) (fun H locs hw hS => ?_)
          refine lv_if_eq (tgt := 80) C.1 C.2.1 dX5_hint_72 (by decide) (fun c_9 => ?_) (fun c_9 => ?_)
          · have hF := kh_ift hF c_9
            exact wL80 y4_50 y5_50 _ _ _ hF hw hS (kh_sub hl [0, 1, 2, 3, 4] rfl)
          · have hF := kh_iff hF c_9
            refine lv_iload C.1 C.2.1 dX5_hint_75 (kh_at hl 4 rfl) ?_
            refine lv_goto (tgt := 82) C.1 C.2.1 dX5_hint_77 (by decide) ?_
            exact wL82 y5_50 y5_50 _ _ _ hF hw hS (kh_sub hl [0, 1, 2, 4] rfl)
  have wL29 : ∀ (ρ_29 : kh_S) (x1_29 : Int32) (t1_29 : Int32) (H : Heap) (locs : List Loc) (ls : Array Slot), f_X5_hint_L29 ρ_29 x1_29 t1_29 = some q0 → kh_w D ca A ad ρ_29 H → va_S A s.heap H locs → kh_lv ls 6 [(0, .ref (ad 15 0)), (1, .int x1_29)] → W p l e (headSpec wsX5_hint ({ frames := 3, cells := 0, slots := 0, locals := 77 } : Room)).room s m ([.ref (ad 15 0), .int x1]).toArray below meth c H locs 0 0 (MQ below (kh_Qi D ca A ad (f_X5_hint ρ x1)) ([.ref (ad 15 0), .int x1]).toArray s 0 0 A) (F0 m 29 ls [.int t1_29, .ref (ad 15 0)]) := by
    intro ρ_29 x1_29 t1_29 H locs ls hF hw hS hl
    unfold f_X5_hint_L29 at hF
    obtain ⟨r_10, ρ_10, h_10, hF⟩ := kh_bd2_ok hF
    refine kh_calli (va_runV (As := [.int t1_29]) (rest := []) ⟨C.1, C.2.1, C.2.2.1, C.2.2.2.1, C.2.2.2.2.1⟩ (c_X5_refused l D ca A ad ρ_29 t1_29 h_10) (cwV 1 C.2.2.2.2.1 gX5_hint_X5_refused rfl rfl rfl (by decide +kernel) ⟨Nat.le_of_ble_eq_true rfl, Nat.le_of_ble_eq_true rfl⟩) (kh_preV C hw hS 15 (kh_z15 ρ_29) kh_kd15 rfl) rfl rfl hl.1.1 rfl (lv_room (kh_sum kh_an (Nat.le_of_ble_eq_true rfl))) dX5_hint_29 ⟨Nat.le_of_ble_eq_true rfl, Nat.le_of_ble_eq_true rfl⟩) hS h_10 (fun H locs hw hS => ?_)
    refine lv_if_eq (tgt := 37) C.1 C.2.1 dX5_hint_32 (by decide) (fun c_11 => ?_) (fun c_11 => ?_)
    · have hF := kh_ift hF c_11
      refine lv_aload_n C.1 C.2.1 dX5_hint_37 rfl (kh_at hl 0 rfl) ?_
      refine lv_iload_n C.1 C.2.1 dX5_hint_38 rfl (kh_at hl 1 rfl) ?_
      obtain ⟨r_12, h_12, hF⟩ := kh_bd_ok hF
      refine kh_calli (va_runV (As := [.int x1_29]) (rest := []) ⟨C.1, C.2.1, C.2.2.1, C.2.2.2.1, C.2.2.2.2.1⟩ (c_X5_wayOf l D ca A ad ρ_10 x1_29 h_12) (cwV 1 C.2.2.2.2.1 gX5_hint_X5_wayOf rfl rfl rfl (by decide +kernel) ⟨Nat.le_of_ble_eq_true rfl, Nat.le_of_ble_eq_true rfl⟩) (kh_preV C hw hS 15 (kh_z15 ρ_10) kh_kd15 rfl) rfl rfl hl.1.1 rfl (lv_room (kh_sum kh_an (Nat.le_of_ble_eq_true rfl))) dX5_hint_39 ⟨Nat.le_of_ble_eq_true rfl, Nat.le_of_ble_eq_true rfl⟩) hS (kh_mp h_12) (fun H locs hw hS => ?_)
      refine kh_istore_n (lv' := [(3, .int r_12), (0, .ref (ad 15 0)), (1, .int x1_29)]) C.1 C.2.1 dX5_hint_42 rfl hl (by decide) rfl (fun ls hl => ?_)
      refine lv_iconst (v := (-1 : Int32)) C.1 C.2.1 dX5_hint_43 (by decide) ?_
      refine kh_istore (lv' := [(4, .int (-1 : Int32)), (3, .int r_12), (0, .ref (ad 15 0)), (1, .int x1_29)]) C.1 C.2.1 dX5_hint_44 hl (by decide) rfl (fun ls hl => ?_)
      refine lv_bipush (v := (7 : Int32)) C.1 C.2.1 dX5_hint_46 (by decide) ?_
      refine kh_istore (lv' := [(5, .int (7 : Int32)), (4, .int (-1 : Int32)), (3, .int r_12), (0, .ref (ad 15 0)), (1, .int x1_29)]) C.1 C.2.1 dX5_hint_48 hl (by decide) rfl (fun ls hl => ?_)
      obtain ⟨b_50, hb_50, hF⟩ := kh_bd_ok hF
      exact wB50 ρ_10 x1_29 r_12 b_50 hF _ (-1 : Int32) (7 : Int32) _ _ _ hb_50 hw hS (kh_sub hl [3, 4, 2, 1, 0] rfl)
    · have hF := kh_iff hF c_11
      refine lv_iconst (v := (0 : Int32)) C.1 C.2.1 dX5_hint_35 (by decide) ?_
      exact W.iret (v := (0 : Int32)) C.1 C.2.1 hr (fun t ht hW => ⟨⟨(0 : Int32), ρ_10, rfl, hF0.trans hF.symm, kh_bk ht hw⟩, hS.F ht⟩) hS.2.2 dX5_hint_36
  refine lv_aload_n C.1 C.2.1 dX5_hint_0 rfl (kh_at hl 0 rfl) ?_
  refine lv_iload_n C.1 C.2.1 dX5_hint_1 rfl (kh_at hl 1 rfl) ?_
  obtain ⟨r_13, h_13, hF⟩ := kh_bd_ok hF
  refine kh_calli (va_runV (As := [.int x1]) (rest := []) ⟨C.1, C.2.1, C.2.2.1, C.2.2.2.1, C.2.2.2.2.1⟩ (c_X5_isGroup l D ca A ad ρ x1 h_13) (cwV 1 C.2.2.2.2.1 gX5_hint_X5_isGroup rfl rfl rfl (by decide +kernel) ⟨Nat.le_of_ble_eq_true rfl, Nat.le_of_ble_eq_true rfl⟩) (kh_preV C hw hS 15 (kh_z15 ρ) kh_kd15 rfl) rfl rfl hl.1.1 rfl (lv_room (kh_sum kh_an (Nat.le_of_ble_eq_true rfl))) dX5_hint_2 ⟨Nat.le_of_ble_eq_true rfl, Nat.le_of_ble_eq_true rfl⟩) hS (kh_mp h_13) (fun H locs hw hS => ?_)
  refine kh_istore_n (lv' := [(2, .int r_13), (0, .ref (ad 15 0)), (1, .int x1)]) C.1 C.2.1 dX5_hint_5 rfl hl (by decide) rfl (fun ls hl => ?_)
  refine lv_aload_n C.1 C.2.1 dX5_hint_6 rfl (kh_at hl 1 rfl) ?_
  refine lv_iload_n C.1 C.2.1 dX5_hint_7 rfl (kh_at hl 0 rfl) ?_
  refine lv_if_ne (tgt := 15) C.1 C.2.1 dX5_hint_8 (by decide) (fun c_14 => ?_) (fun c_14 => ?_)
  · have hF := kh_iff hF c_14
    refine lv_aload_n C.1 C.2.1 dX5_hint_15 rfl (kh_at hl 1 rfl) ?_
    refine kh_get C hw 15 15 rfl (kh_z15 ρ) kh_kd15 (Cn := RX5) (T := TX5) (N := 33) rfl (Nat.le_of_ble_eq_true rfl) k_40 (kf_15_15 ad ρ 0) dX5_hint_16 ?_
    refine lv_iload_n C.1 C.2.1 dX5_hint_19 rfl (kh_at hl 2 rfl) ?_
    obtain ⟨g_15, hF⟩ := kh_gd_ok hF
    refine kh_iald C hw 35 rfl (kh_z35 ρ) kh_kd35 g_15 dX5_hint_20 ?_
    refine lv_if_eq (tgt := 28) C.1 C.2.1 dX5_hint_21 (by decide) (fun c_16 => ?_) (fun c_16 => ?_)
    · have hF := kh_ift hF c_16
      refine lv_iconst (v := (0 : Int32)) C.1 C.2.1 dX5_hint_28 (by decide) ?_
      exact wL29 ρ x1 (0 : Int32) _ _ _ hF hw hS (kh_sub hl [1, 2] rfl)
    · have hF := kh_iff hF c_16
      refine lv_iconst (v := (2 : Int32)) C.1 C.2.1 dX5_hint_24 (by decide) ?_
      refine lv_goto (tgt := 29) C.1 C.2.1 dX5_hint_25 (by decide) ?_
      exact wL29 ρ x1 (2 : Int32) _ _ _ hF hw hS (kh_sub hl [1, 2] rfl)
  · have hF := kh_ift hF c_14
    refine lv_iconst (v := (1 : Int32)) C.1 C.2.1 dX5_hint_11 (by decide) ?_
    refine lv_goto (tgt := 29) C.1 C.2.1 dX5_hint_12 (by decide) ?_
    exact wL29 ρ x1 (1 : Int32) _ _ _ hF hw hS (kh_sub hl [1, 2] rfl)

def f_X5_giveUp_L41 (ρ_41 : kh_S) : Option (kh_S) := some ρ_41
def f_X5_giveUp_L29 (ρ_29 : kh_S) (x1_29 : Int32) (t1_29 : Int32) : Option (kh_S) := kh_bd2 (f_X5_refused ρ_29 t1_29) (fun r_1 ρ_1 => if r_1 = 0 then kh_bd (f_X5_leaves ρ_1 x1_29 (2 : Int32)) (fun ρ_3 => f_X5_giveUp_L41 ρ_3) else f_X5_giveUp_L41 ρ_1)
def f_X5_giveUp (ρ : kh_S) (x1 : Int32) : Option (kh_S) := kh_bd (f_X5_isGroup ρ x1) (fun r_4 => if r_4 = 0 then f_X5_giveUp_L29 ρ x1 (1 : Int32) else kh_gd (kh_in x1 30) (if (ρ 35 0 0 x1.toNatClampNeg) = 0 then f_X5_giveUp_L29 ρ x1 (0 : Int32) else f_X5_giveUp_L29 ρ x1 (2 : Int32)))
set_option maxHeartbeats 4000000 in
set_option maxRecDepth 100000 in
theorem c_X5_giveUp (l : Launch) (D : va_G) (ca : Nat → ClassId) (A : Nat → Prop) (ad : Nat → Nat → Nat) (ρ : kh_S) (x1 : Int32) {q0 : kh_S} (hF0 : f_X5_giveUp ρ x1 = some q0) : Met l yX5_giveUp wsX5_giveUp ({ frames := 2, cells := 0, slots := 0, locals := 43 } : Room) (va_Pc [.ref (ad 15 0), .int x1] (kh_I D ca A ad ρ)) (kh_Qv D ca A ad (f_X5_giveUp ρ x1)) 0 0 A := by
  refine Met.ofW (cc := cX5_giveUp) (maxL := 3) (ret := none) (by decide) rfl ?_
  intro p e s m args below meth c s₁ B hml hv
  obtain ⟨rfl, hK, hw, hA⟩ := hv
  have C : kh_C p s m ([.ref (ad 15 0), .int x1]).toArray c cX5_giveUp 3 RX5 wsX5_giveUp D ca A := ⟨B.exec, B.bytes, hml, findClass_of_methodNamed B.named, atoms_spec (ws := wsX5_giveUp) B.pre, hK, hA⟩
  have hr := B.returns
  have hlocks := B.notSynchronized
  have hS : va_S A s.heap s.heap [] := va_S.rf
  have hl := kh_entry ([.ref (ad 15 0), .int x1]) (n := 3) (kh_ac rfl (kh_ac rfl kh_an)) (Nat.le_of_ble_eq_true rfl)
  rw [lg_entry_eq]
  generalize (lg_sl ([.ref (ad 15 0), .int x1]) ++ List.replicate (3 - (lg_sl ([.ref (ad 15 0), .int x1])).length) Slot.unset).toArray = ls at hl ⊢
  have hl : kh_lv ls 3 [(0, .ref (ad 15 0)), (1, .int x1)] := hl
  have k_40 := C.2.2.2.2.1 (.fieldLink RX5 40 "KeylessHallModel" "how" "[I") (by decide +kernel)
  have hF := hF0
  unfold f_X5_giveUp at hF
  have wL41 : ∀ (ρ_41 : kh_S) (H : Heap) (locs : List Loc) (ls : Array Slot), f_X5_giveUp_L41 ρ_41 = some q0 → kh_w D ca A ad ρ_41 H → va_S A s.heap H locs → kh_lv ls 3 [] → W p l e (headSpec wsX5_giveUp ({ frames := 2, cells := 0, slots := 0, locals := 43 } : Room)).room s m ([.ref (ad 15 0), .int x1]).toArray below meth c H locs 0 0 (MQ below (kh_Qv D ca A ad (f_X5_giveUp ρ x1)) ([.ref (ad 15 0), .int x1]).toArray s 0 0 A) (F0 m 41 ls []) := by
    intro ρ_41 H locs ls hF hw hS hl
    unfold f_X5_giveUp_L41 at hF
    exact W.vret C.1 C.2.1 hr (fun t ht hW => ⟨⟨ρ_41, rfl, hF0.trans hF.symm, kh_bk ht hw⟩, hS.F ht⟩) hS.2.2 dX5_giveUp_41
  have wL29 : ∀ (ρ_29 : kh_S) (x1_29 : Int32) (t1_29 : Int32) (H : Heap) (locs : List Loc) (ls : Array Slot), f_X5_giveUp_L29 ρ_29 x1_29 t1_29 = some q0 → kh_w D ca A ad ρ_29 H → va_S A s.heap H locs → kh_lv ls 3 [(0, .ref (ad 15 0)), (1, .int x1_29)] → W p l e (headSpec wsX5_giveUp ({ frames := 2, cells := 0, slots := 0, locals := 43 } : Room)).room s m ([.ref (ad 15 0), .int x1]).toArray below meth c H locs 0 0 (MQ below (kh_Qv D ca A ad (f_X5_giveUp ρ x1)) ([.ref (ad 15 0), .int x1]).toArray s 0 0 A) (F0 m 29 ls [.int t1_29, .ref (ad 15 0)]) := by
    intro ρ_29 x1_29 t1_29 H locs ls hF hw hS hl
    unfold f_X5_giveUp_L29 at hF
    obtain ⟨r_1, ρ_1, h_1, hF⟩ := kh_bd2_ok hF
    refine kh_calli (va_runV (As := [.int t1_29]) (rest := []) ⟨C.1, C.2.1, C.2.2.1, C.2.2.2.1, C.2.2.2.2.1⟩ (c_X5_refused l D ca A ad ρ_29 t1_29 h_1) (cwV 1 C.2.2.2.2.1 gX5_giveUp_X5_refused rfl rfl rfl (by decide +kernel) ⟨Nat.le_of_ble_eq_true rfl, Nat.le_of_ble_eq_true rfl⟩) (kh_preV C hw hS 15 (kh_z15 ρ_29) kh_kd15 rfl) rfl rfl hl.1.1 rfl (lv_room (kh_sum kh_an (Nat.le_of_ble_eq_true rfl))) dX5_giveUp_29 ⟨Nat.le_of_ble_eq_true rfl, Nat.le_of_ble_eq_true rfl⟩) hS h_1 (fun H locs hw hS => ?_)
    refine lv_if_ne (tgt := 41) C.1 C.2.1 dX5_giveUp_32 (by decide) (fun c_2 => ?_) (fun c_2 => ?_)
    · have hF := kh_iff hF c_2
      exact wL41 ρ_1 _ _ _ hF hw hS (kh_sub hl [] rfl)
    · have hF := kh_ift hF c_2
      refine lv_aload_n C.1 C.2.1 dX5_giveUp_35 rfl (kh_at hl 0 rfl) ?_
      refine lv_iload_n C.1 C.2.1 dX5_giveUp_36 rfl (kh_at hl 1 rfl) ?_
      refine lv_iconst (v := (2 : Int32)) C.1 C.2.1 dX5_giveUp_37 (by decide) ?_
      obtain ⟨ρ_3, h_3, hF⟩ := kh_bd_ok hF
      refine kh_callv (va_runV (As := [.int x1_29, .int (2 : Int32)]) (rest := []) ⟨C.1, C.2.1, C.2.2.1, C.2.2.2.1, C.2.2.2.2.1⟩ (c_X5_leaves l D ca A ad ρ_1 x1_29 (2 : Int32) h_3) (cwV 2 C.2.2.2.2.1 gX5_giveUp_X5_leaves rfl rfl rfl (by decide +kernel) ⟨Nat.le_of_ble_eq_true rfl, Nat.le_of_ble_eq_true rfl⟩) (kh_preV C hw hS 15 (kh_z15 ρ_1) kh_kd15 rfl) rfl rfl hl.1.1 rfl (lv_room (kh_sum kh_an (Nat.le_of_ble_eq_true rfl))) dX5_giveUp_38 ⟨Nat.le_of_ble_eq_true rfl, Nat.le_of_ble_eq_true rfl⟩) hS h_3 (fun H locs hw hS => ?_)
      exact wL41 ρ_3 _ _ _ hF hw hS (kh_sub hl [] rfl)
  refine lv_aload_n C.1 C.2.1 dX5_giveUp_0 rfl (kh_at hl 0 rfl) ?_
  refine lv_iload_n C.1 C.2.1 dX5_giveUp_1 rfl (kh_at hl 1 rfl) ?_
  obtain ⟨r_4, h_4, hF⟩ := kh_bd_ok hF
  refine kh_calli (va_runV (As := [.int x1]) (rest := []) ⟨C.1, C.2.1, C.2.2.1, C.2.2.2.1, C.2.2.2.2.1⟩ (c_X5_isGroup l D ca A ad ρ x1 h_4) (cwV 1 C.2.2.2.2.1 gX5_giveUp_X5_isGroup rfl rfl rfl (by decide +kernel) ⟨Nat.le_of_ble_eq_true rfl, Nat.le_of_ble_eq_true rfl⟩) (kh_preV C hw hS 15 (kh_z15 ρ) kh_kd15 rfl) rfl rfl hl.1.1 rfl (lv_room (kh_sum kh_an (Nat.le_of_ble_eq_true rfl))) dX5_giveUp_2 ⟨Nat.le_of_ble_eq_true rfl, Nat.le_of_ble_eq_true rfl⟩) hS (kh_mp h_4) (fun H locs hw hS => ?_)
  refine kh_istore_n (lv' := [(2, .int r_4), (0, .ref (ad 15 0)), (1, .int x1)]) C.1 C.2.1 dX5_giveUp_5 rfl hl (by decide) rfl (fun ls hl => ?_)
  refine lv_aload_n C.1 C.2.1 dX5_giveUp_6 rfl (kh_at hl 1 rfl) ?_
  refine lv_iload_n C.1 C.2.1 dX5_giveUp_7 rfl (kh_at hl 0 rfl) ?_
  refine lv_if_ne (tgt := 15) C.1 C.2.1 dX5_giveUp_8 (by decide) (fun c_5 => ?_) (fun c_5 => ?_)
  · have hF := kh_iff hF c_5
    refine lv_aload_n C.1 C.2.1 dX5_giveUp_15 rfl (kh_at hl 1 rfl) ?_
    refine kh_get C hw 15 15 rfl (kh_z15 ρ) kh_kd15 (Cn := RX5) (T := TX5) (N := 33) rfl (Nat.le_of_ble_eq_true rfl) k_40 (kf_15_15 ad ρ 0) dX5_giveUp_16 ?_
    refine lv_iload_n C.1 C.2.1 dX5_giveUp_19 rfl (kh_at hl 2 rfl) ?_
    obtain ⟨g_6, hF⟩ := kh_gd_ok hF
    refine kh_iald C hw 35 rfl (kh_z35 ρ) kh_kd35 g_6 dX5_giveUp_20 ?_
    refine lv_if_eq (tgt := 28) C.1 C.2.1 dX5_giveUp_21 (by decide) (fun c_7 => ?_) (fun c_7 => ?_)
    · have hF := kh_ift hF c_7
      refine lv_iconst (v := (0 : Int32)) C.1 C.2.1 dX5_giveUp_28 (by decide) ?_
      exact wL29 ρ x1 (0 : Int32) _ _ _ hF hw hS (kh_sub hl [1, 2] rfl)
    · have hF := kh_iff hF c_7
      refine lv_iconst (v := (2 : Int32)) C.1 C.2.1 dX5_giveUp_24 (by decide) ?_
      refine lv_goto (tgt := 29) C.1 C.2.1 dX5_giveUp_25 (by decide) ?_
      exact wL29 ρ x1 (2 : Int32) _ _ _ hF hw hS (kh_sub hl [1, 2] rfl)
  · have hF := kh_ift hF c_5
    refine lv_iconst (v := (1 : Int32)) C.1 C.2.1 dX5_giveUp_11 (by decide) ?_
    refine lv_goto (tgt := 29) C.1 C.2.1 dX5_giveUp_12 (by decide) ?_
    exact wL29 ρ x1 (1 : Int32) _ _ _ hF hw hS (kh_sub hl [1, 2] rfl)

def f_X5_nextToReset_L161 (ρ : kh_S) (t0_161 : Int32) : Option (Int32) := some t0_161
def f_X5_nextToReset_L151 (ρ : kh_S) (x2_151 : Int32) (x3_151 : Int32) : Option (Int32) := if x3_151 = (-1 : Int32) then f_X5_nextToReset_L161 ρ x2_151 else f_X5_nextToReset_L161 ρ x3_151
def f_X5_nextToReset_L145 (ρ : kh_S) (x1_c7 : Int32) (x2_145 : Int32) (x3_145 : Int32) (x4_145 : Int32) : Option ((Int32 × Int32 × Int32) ⊕ (Int32 × Int32)) := some (.inl (x2_145, x3_145, x4_145 + (1 : Int32)))
def f_X5_nextToReset_L144 (ρ : kh_S) (x1_c7 : Int32) (x2_144 : Int32) (x4_144 : Int32) (t0_144 : Int32) : Option ((Int32 × Int32 × Int32) ⊕ (Int32 × Int32)) := f_X5_nextToReset_L145 ρ x1_c7 x2_144 t0_144 x4_144
def f_X5_nextToReset_L133 (ρ : kh_S) (x1_c7 : Int32) (x2_133 : Int32) (x3_133 : Int32) (x4_133 : Int32) (x6_133 : Int32) : Option ((Int32 × Int32 × Int32) ⊕ (Int32 × Int32)) := if x6_133 = 0 then f_X5_nextToReset_L144 ρ x1_c7 x2_133 x4_133 x3_133 else f_X5_nextToReset_L144 ρ x1_c7 x2_133 x4_133 x4_133
def f_X5_nextToReset_L125 (ρ : kh_S) (x1_c7 : Int32) (x2_c65 : Int32) (x3_c65 : Int32) (x4_c65 : Int32) (x5_c65 : Int32) (x7_125 : Int32) (t0_125 : Int32) : Option ((Int32 × Int32) ⊕ (Int32)) := some (.inl (t0_125, x7_125 + (1 : Int32)))
def f_X5_nextToReset_L124 (ρ : kh_S) (x1_c7 : Int32) (x2_c65 : Int32) (x3_c65 : Int32) (x4_c65 : Int32) (x5_c65 : Int32) (x7_124 : Int32) : Option ((Int32 × Int32) ⊕ (Int32)) := f_X5_nextToReset_L125 ρ x1_c7 x2_c65 x3_c65 x4_c65 x5_c65 x7_124 (0 : Int32)
def f_X5_nextToReset_L120 (ρ : kh_S) (x1_c7 : Int32) (x2_c65 : Int32) (x3_c65 : Int32) (x4_c65 : Int32) (x5_c65 : Int32) (x7_120 : Int32) : Option ((Int32 × Int32) ⊕ (Int32)) := f_X5_nextToReset_L125 ρ x1_c7 x2_c65 x3_c65 x4_c65 x5_c65 x7_120 (1 : Int32)
def f_X5_nextToReset_B65 (ρ : kh_S) (x1_c7 : Int32) (x2_c65 : Int32) (x3_c65 : Int32) (x4_c65 : Int32) (x5_c65 : Int32) (y6_65 : Int32) (y7_65 : Int32) : Option ((Int32 × Int32) ⊕ (Int32)) := kh_gd (kh_in x1_c7 4) (if (ρ 25 0 0 x1_c7.toNatClampNeg) ≤ y7_65 then some (.inr y6_65) else if y6_65 = 0 then f_X5_nextToReset_L124 ρ x1_c7 x2_c65 x3_c65 x4_c65 x5_c65 y7_65 else if y7_65 = x4_c65 then f_X5_nextToReset_L120 ρ x1_c7 x2_c65 x3_c65 x4_c65 x5_c65 y7_65 else if (((ρ 27 0 0 x1_c7.toNatClampNeg) >>> (y7_65 &&& 31)) &&& (1 : Int32)) = 0 then f_X5_nextToReset_L120 ρ x1_c7 x2_c65 x3_c65 x4_c65 x5_c65 y7_65 else kh_gd (kh_in (((8 : Int32) * x1_c7) + y7_65) 32) (if ((ρ 30 0 0 (((8 : Int32) * x1_c7) + y7_65).toNatClampNeg) &&& x5_c65) = 0 then f_X5_nextToReset_L120 ρ x1_c7 x2_c65 x3_c65 x4_c65 x5_c65 y7_65 else f_X5_nextToReset_L124 ρ x1_c7 x2_c65 x3_c65 x4_c65 x5_c65 y7_65))
def f_X5_nextToReset_A65 (ρ : kh_S) (x1_c7 : Int32) (x2_c65 : Int32) (x3_c65 : Int32) (x4_c65 : Int32) (x5_c65 : Int32) : (Int32) → Option ((Int32 × Int32 × Int32) ⊕ (Int32 × Int32)) := (fun u : Int32 => f_X5_nextToReset_L133 ρ x1_c7 x2_c65 x3_c65 x4_c65 u)
def f_X5_nextToReset_B7 (ρ : kh_S) (x1_c7 : Int32) (y2_7 : Int32) (y3_7 : Int32) (y4_7 : Int32) : Option ((Int32 × Int32 × Int32) ⊕ (Int32 × Int32)) := kh_gd (kh_in x1_c7 4) (if (ρ 25 0 0 x1_c7.toNatClampNeg) ≤ y4_7 then some (.inr (y2_7, y3_7)) else if (((ρ 27 0 0 x1_c7.toNatClampNeg) >>> (y4_7 &&& 31)) &&& (1 : Int32)) = (1 : Int32) then kh_gd (kh_in (((8 : Int32) * x1_c7) + y4_7) 32) (kh_bd (kh_lp (fun a : Int32 × Int32 => f_X5_nextToReset_B65 ρ x1_c7 y4_7 y3_7 y4_7 ((ρ 31 0 0 (((8 : Int32) * x1_c7) + y4_7).toNatClampNeg) &&& ((ρ 24 0 0 x1_c7.toNatClampNeg) ^^^ (-1 : Int32))) a.1 a.2) 9999 ((1 : Int32), (0 : Int32))) (f_X5_nextToReset_A65 ρ x1_c7 y4_7 y3_7 y4_7 ((ρ 31 0 0 (((8 : Int32) * x1_c7) + y4_7).toNatClampNeg) &&& ((ρ 24 0 0 x1_c7.toNatClampNeg) ^^^ (-1 : Int32))))) else f_X5_nextToReset_L145 ρ x1_c7 y2_7 y3_7 y4_7)
def f_X5_nextToReset_A7 (ρ : kh_S) (x1_c7 : Int32) : (Int32 × Int32) → Option (Int32) := (fun u : Int32 × Int32 => f_X5_nextToReset_L151 ρ u.1 u.2)
def f_X5_nextToReset (ρ : kh_S) (x1 : Int32) : Option (Int32) := kh_bd (kh_lp (fun a : Int32 × Int32 × Int32 => f_X5_nextToReset_B7 ρ x1 a.1 a.2.1 a.2.2) 9999 ((-1 : Int32), (-1 : Int32), (0 : Int32))) (f_X5_nextToReset_A7 ρ x1)
set_option maxHeartbeats 4000000 in
set_option maxRecDepth 100000 in
theorem c_X5_nextToReset (l : Launch) (D : va_G) (ca : Nat → ClassId) (A : Nat → Prop) (ad : Nat → Nat → Nat) (ρ : kh_S) (x1 : Int32) {q0 : Int32} (hF0 : f_X5_nextToReset ρ x1 = some q0) : Met l yX5_nextToReset wsX5_nextToReset ({ frames := 0, cells := 0, slots := 0, locals := 0 } : Room) (va_Pc [.ref (ad 15 0), .int x1] (kh_I D ca A ad ρ)) (kh_Qi D ca A ad (kh_pu (f_X5_nextToReset ρ x1) ρ)) 0 0 A := by
  refine Met.ofW (cc := cX5_nextToReset) (maxL := 8) (ret := (some .int)) (by decide) rfl ?_
  intro p e s m args below meth c s₁ B hml hv
  obtain ⟨rfl, hK, hw, hA⟩ := hv
  have C : kh_C p s m ([.ref (ad 15 0), .int x1]).toArray c cX5_nextToReset 8 RX5 wsX5_nextToReset D ca A := ⟨B.exec, B.bytes, hml, findClass_of_methodNamed B.named, atoms_spec (ws := wsX5_nextToReset) B.pre, hK, hA⟩
  have hr := B.returns
  have hlocks := B.notSynchronized
  have hS : va_S A s.heap s.heap [] := va_S.rf
  have hl := kh_entry ([.ref (ad 15 0), .int x1]) (n := 8) (kh_ac rfl (kh_ac rfl kh_an)) (Nat.le_of_ble_eq_true rfl)
  rw [lg_entry_eq]
  generalize (lg_sl ([.ref (ad 15 0), .int x1]) ++ List.replicate (8 - (lg_sl ([.ref (ad 15 0), .int x1])).length) Slot.unset).toArray = ls at hl ⊢
  have hl : kh_lv ls 8 [(0, .ref (ad 15 0)), (1, .int x1)] := hl
  have k_13 := C.2.2.2.2.1 (.fieldLink RX5 13 "KeylessHallModel" "many" "[I") (by decide +kernel)
  have k_19 := C.2.2.2.2.1 (.fieldLink RX5 19 "KeylessHallModel" "toReset" "[I") (by decide +kernel)
  have k_28 := C.2.2.2.2.1 (.fieldLink RX5 28 "KeylessHallModel" "needs" "[I") (by decide +kernel)
  have k_31 := C.2.2.2.2.1 (.fieldLink RX5 31 "KeylessHallModel" "gives" "[I") (by decide +kernel)
  have k_7 := C.2.2.2.2.1 (.fieldLink RX5 7 "KeylessHallModel" "first" "[I") (by decide +kernel)
  have hF := hF0
  unfold f_X5_nextToReset at hF
  have wL161 : ∀ (t0_161 : Int32) (H : Heap) (locs : List Loc) (ls : Array Slot), f_X5_nextToReset_L161 ρ t0_161 = some q0 → kh_w D ca A ad ρ H → va_S A s.heap H locs → kh_lv ls 8 [] → W p l e (headSpec wsX5_nextToReset ({ frames := 0, cells := 0, slots := 0, locals := 0 } : Room)).room s m ([.ref (ad 15 0), .int x1]).toArray below meth c H locs 0 0 (MQ below (kh_Qi D ca A ad (kh_pu (f_X5_nextToReset ρ x1) ρ)) ([.ref (ad 15 0), .int x1]).toArray s 0 0 A) (F0 m 161 ls [.int t0_161]) := by
    intro t0_161 H locs ls hF hw hS hl
    unfold f_X5_nextToReset_L161 at hF
    exact W.iret (v := t0_161) C.1 C.2.1 hr (fun t ht hW => ⟨⟨t0_161, ρ, rfl, kh_mp (hF0.trans hF.symm), kh_bk ht hw⟩, hS.F ht⟩) hS.2.2 dX5_nextToReset_161
  have wL151 : ∀ (x2_151 : Int32) (x3_151 : Int32) (H : Heap) (locs : List Loc) (ls : Array Slot), f_X5_nextToReset_L151 ρ x2_151 x3_151 = some q0 → kh_w D ca A ad ρ H → va_S A s.heap H locs → kh_lv ls 8 [(2, .int x2_151), (3, .int x3_151)] → W p l e (headSpec wsX5_nextToReset ({ frames := 0, cells := 0, slots := 0, locals := 0 } : Room)).room s m ([.ref (ad 15 0), .int x1]).toArray below meth c H locs 0 0 (MQ below (kh_Qi D ca A ad (kh_pu (f_X5_nextToReset ρ x1) ρ)) ([.ref (ad 15 0), .int x1]).toArray s 0 0 A) (F0 m 151 ls []) := by
    intro x2_151 x3_151 H locs ls hF hw hS hl
    unfold f_X5_nextToReset_L151 at hF
    refine lv_iload_n C.1 C.2.1 dX5_nextToReset_151 rfl (kh_at hl 1 rfl) ?_
    refine lv_iconst (v := (-1 : Int32)) C.1 C.2.1 dX5_nextToReset_152 (by decide) ?_
    refine lv_icmp_ne (tgt := 160) C.1 C.2.1 dX5_nextToReset_153 (by decide) (fun c_1 => ?_) (fun c_1 => ?_)
    · have hF := kh_iff hF c_1
      refine lv_iload_n C.1 C.2.1 dX5_nextToReset_160 rfl (kh_at hl 1 rfl) ?_
      exact wL161 x3_151 _ _ _ hF hw hS (kh_sub hl [] rfl)
    · have hF := kh_ift hF c_1
      refine lv_iload_n C.1 C.2.1 dX5_nextToReset_156 rfl (kh_at hl 0 rfl) ?_
      refine lv_goto (tgt := 161) C.1 C.2.1 dX5_nextToReset_157 (by decide) ?_
      exact wL161 x2_151 _ _ _ hF hw hS (kh_sub hl [] rfl)
  have wB7 : ∀ (x1_c7 : Int32) (b : Int32 × Int32), f_X5_nextToReset_A7 ρ x1_c7 b = some q0 → ∀ (n : Nat) (y2_7 : Int32) (y3_7 : Int32) (y4_7 : Int32) (H : Heap) (locs : List Loc) (ls : Array Slot), kh_lp (fun a : Int32 × Int32 × Int32 => f_X5_nextToReset_B7 ρ x1_c7 a.1 a.2.1 a.2.2) n (y2_7, y3_7, y4_7) = some b → kh_w D ca A ad ρ H → va_S A s.heap H locs → kh_lv ls 8 [(0, .ref (ad 15 0)), (1, .int x1_c7), (2, .int y2_7), (3, .int y3_7), (4, .int y4_7)] → W p l e (headSpec wsX5_nextToReset ({ frames := 0, cells := 0, slots := 0, locals := 0 } : Room)).room s m ([.ref (ad 15 0), .int x1]).toArray below meth c H locs 0 0 (MQ below (kh_Qi D ca A ad (kh_pu (f_X5_nextToReset ρ x1) ρ)) ([.ref (ad 15 0), .int x1]).toArray s 0 0 A) (F0 m 7 ls []) := by
    intro x1_c7 b hA_7 n
    induction n with
    | zero => intro y2_7 y3_7 y4_7 H locs ls h9; exact absurd h9 (fun z => nomatch z)
    | succ n ih_7 =>
      intro y2_7 y3_7 y4_7 H locs ls hb_7 hw hS hl
      obtain ⟨q_7, hF, hb_7⟩ := kh_lp_ok hb_7
      have hF : f_X5_nextToReset_B7 ρ x1_c7 y2_7 y3_7 y4_7 = some q_7 := hF
      have wL145 : ∀ (x2_145 : Int32) (x3_145 : Int32) (x4_145 : Int32) (H : Heap) (locs : List Loc) (ls : Array Slot), f_X5_nextToReset_L145 ρ x1_c7 x2_145 x3_145 x4_145 = some q_7 → kh_w D ca A ad ρ H → va_S A s.heap H locs → kh_lv ls 8 [(0, .ref (ad 15 0)), (1, .int x1_c7), (2, .int x2_145), (3, .int x3_145), (4, .int x4_145)] → W p l e (headSpec wsX5_nextToReset ({ frames := 0, cells := 0, slots := 0, locals := 0 } : Room)).room s m ([.ref (ad 15 0), .int x1]).toArray below meth c H locs 0 0 (MQ below (kh_Qi D ca A ad (kh_pu (f_X5_nextToReset ρ x1) ρ)) ([.ref (ad 15 0), .int x1]).toArray s 0 0 A) (F0 m 145 ls []) := by
        intro x2_145 x3_145 x4_145 H locs ls hF hw hS hl
        unfold f_X5_nextToReset_L145 at hF
        refine kh_iinc (v := x4_145 + (1 : Int32)) (lv' := [(4, .int (x4_145 + (1 : Int32))), (0, .ref (ad 15 0)), (1, .int x1_c7), (2, .int x2_145), (3, .int x3_145)]) C.1 C.2.1 dX5_nextToReset_145 hl (k := 4) rfl (by rfl) (by decide) rfl (fun ls hl => ?_)
        refine lv_goto (tgt := 7) C.1 C.2.1 dX5_nextToReset_148 (by decide) ?_
        have e9 := Option.some.inj hF
        rcases hb_7 with ⟨a9, h8, h9⟩ | h8
        · have h7 := Sum.inl.inj (e9.trans h8)
          subst h7
          exact ih_7 _ _ _ _ _ _ h9 hw hS (kh_sub hl [1, 2, 3, 4, 0] rfl)
        · exact absurd (e9.trans h8) (fun z => nomatch z)
      have wL144 : ∀ (x2_144 : Int32) (x4_144 : Int32) (t0_144 : Int32) (H : Heap) (locs : List Loc) (ls : Array Slot), f_X5_nextToReset_L144 ρ x1_c7 x2_144 x4_144 t0_144 = some q_7 → kh_w D ca A ad ρ H → va_S A s.heap H locs → kh_lv ls 8 [(0, .ref (ad 15 0)), (1, .int x1_c7), (2, .int x2_144), (4, .int x4_144)] → W p l e (headSpec wsX5_nextToReset ({ frames := 0, cells := 0, slots := 0, locals := 0 } : Room)).room s m ([.ref (ad 15 0), .int x1]).toArray below meth c H locs 0 0 (MQ below (kh_Qi D ca A ad (kh_pu (f_X5_nextToReset ρ x1) ρ)) ([.ref (ad 15 0), .int x1]).toArray s 0 0 A) (F0 m 144 ls [.int t0_144]) := by
        intro x2_144 x4_144 t0_144 H locs ls hF hw hS hl
        unfold f_X5_nextToReset_L144 at hF
        refine kh_istore_n (lv' := [(3, .int t0_144), (0, .ref (ad 15 0)), (1, .int x1_c7), (2, .int x2_144), (4, .int x4_144)]) C.1 C.2.1 dX5_nextToReset_144 rfl hl (by decide) rfl (fun ls hl => ?_)
        exact wL145 x2_144 t0_144 x4_144 _ _ _ hF hw hS (kh_sub hl [1, 2, 3, 0, 4] rfl)
      have wL133 : ∀ (x2_133 : Int32) (x3_133 : Int32) (x4_133 : Int32) (x6_133 : Int32) (H : Heap) (locs : List Loc) (ls : Array Slot), f_X5_nextToReset_L133 ρ x1_c7 x2_133 x3_133 x4_133 x6_133 = some q_7 → kh_w D ca A ad ρ H → va_S A s.heap H locs → kh_lv ls 8 [(0, .ref (ad 15 0)), (1, .int x1_c7), (2, .int x2_133), (3, .int x3_133), (4, .int x4_133), (6, .int x6_133)] → W p l e (headSpec wsX5_nextToReset ({ frames := 0, cells := 0, slots := 0, locals := 0 } : Room)).room s m ([.ref (ad 15 0), .int x1]).toArray below meth c H locs 0 0 (MQ below (kh_Qi D ca A ad (kh_pu (f_X5_nextToReset ρ x1) ρ)) ([.ref (ad 15 0), .int x1]).toArray s 0 0 A) (F0 m 133 ls []) := by
        intro x2_133 x3_133 x4_133 x6_133 H locs ls hF hw hS hl
        unfold f_X5_nextToReset_L133 at hF
        refine lv_iload C.1 C.2.1 dX5_nextToReset_133 (kh_at hl 5 rfl) ?_
        refine lv_if_eq (tgt := 143) C.1 C.2.1 dX5_nextToReset_135 (by decide) (fun c_2 => ?_) (fun c_2 => ?_)
        · have hF := kh_ift hF c_2
          refine lv_iload_n C.1 C.2.1 dX5_nextToReset_143 rfl (kh_at hl 3 rfl) ?_
          exact wL144 x2_133 x4_133 x3_133 _ _ _ hF hw hS (kh_sub hl [0, 1, 2, 4] rfl)
        · have hF := kh_iff hF c_2
          refine lv_iload C.1 C.2.1 dX5_nextToReset_138 (kh_at hl 4 rfl) ?_
          refine lv_goto (tgt := 144) C.1 C.2.1 dX5_nextToReset_140 (by decide) ?_
          exact wL144 x2_133 x4_133 x4_133 _ _ _ hF hw hS (kh_sub hl [0, 1, 2, 4] rfl)
      have wB65 : ∀ (x2_c65 : Int32) (x3_c65 : Int32) (x4_c65 : Int32) (x5_c65 : Int32) (b : Int32), f_X5_nextToReset_A65 ρ x1_c7 x2_c65 x3_c65 x4_c65 x5_c65 b = some q_7 → ∀ (n : Nat) (y6_65 : Int32) (y7_65 : Int32) (H : Heap) (locs : List Loc) (ls : Array Slot), kh_lp (fun a : Int32 × Int32 => f_X5_nextToReset_B65 ρ x1_c7 x2_c65 x3_c65 x4_c65 x5_c65 a.1 a.2) n (y6_65, y7_65) = some b → kh_w D ca A ad ρ H → va_S A s.heap H locs → kh_lv ls 8 [(0, .ref (ad 15 0)), (1, .int x1_c7), (2, .int x2_c65), (3, .int x3_c65), (4, .int x4_c65), (5, .int x5_c65), (6, .int y6_65), (7, .int y7_65)] → W p l e (headSpec wsX5_nextToReset ({ frames := 0, cells := 0, slots := 0, locals := 0 } : Room)).room s m ([.ref (ad 15 0), .int x1]).toArray below meth c H locs 0 0 (MQ below (kh_Qi D ca A ad (kh_pu (f_X5_nextToReset ρ x1) ρ)) ([.ref (ad 15 0), .int x1]).toArray s 0 0 A) (F0 m 65 ls []) := by
        intro x2_c65 x3_c65 x4_c65 x5_c65 b hA_65 n
        induction n with
        | zero => intro y6_65 y7_65 H locs ls h9; exact absurd h9 (fun z => nomatch z)
        | succ n ih_65 =>
          intro y6_65 y7_65 H locs ls hb_65 hw hS hl
          obtain ⟨q_65, hF, hb_65⟩ := kh_lp_ok hb_65
          have hF : f_X5_nextToReset_B65 ρ x1_c7 x2_c65 x3_c65 x4_c65 x5_c65 y6_65 y7_65 = some q_65 := hF
          have wL125 : ∀ (x7_125 : Int32) (t0_125 : Int32) (H : Heap) (locs : List Loc) (ls : Array Slot), f_X5_nextToReset_L125 ρ x1_c7 x2_c65 x3_c65 x4_c65 x5_c65 x7_125 t0_125 = some q_65 → kh_w D ca A ad ρ H → va_S A s.heap H locs → kh_lv ls 8 [(0, .ref (ad 15 0)), (1, .int x1_c7), (2, .int x2_c65), (3, .int x3_c65), (4, .int x4_c65), (5, .int x5_c65), (7, .int x7_125)] → W p l e (headSpec wsX5_nextToReset ({ frames := 0, cells := 0, slots := 0, locals := 0 } : Room)).room s m ([.ref (ad 15 0), .int x1]).toArray below meth c H locs 0 0 (MQ below (kh_Qi D ca A ad (kh_pu (f_X5_nextToReset ρ x1) ρ)) ([.ref (ad 15 0), .int x1]).toArray s 0 0 A) (F0 m 125 ls [.int t0_125]) := by
            intro x7_125 t0_125 H locs ls hF hw hS hl
            unfold f_X5_nextToReset_L125 at hF
            refine kh_istore (lv' := [(6, .int t0_125), (0, .ref (ad 15 0)), (1, .int x1_c7), (2, .int x2_c65), (3, .int x3_c65), (4, .int x4_c65), (5, .int x5_c65), (7, .int x7_125)]) C.1 C.2.1 dX5_nextToReset_125 hl (by decide) rfl (fun ls hl => ?_)
            refine kh_iinc (v := x7_125 + (1 : Int32)) (lv' := [(7, .int (x7_125 + (1 : Int32))), (6, .int t0_125), (0, .ref (ad 15 0)), (1, .int x1_c7), (2, .int x2_c65), (3, .int x3_c65), (4, .int x4_c65), (5, .int x5_c65)]) C.1 C.2.1 dX5_nextToReset_127 hl (k := 7) rfl (by rfl) (by decide) rfl (fun ls hl => ?_)
            refine lv_goto (tgt := 65) C.1 C.2.1 dX5_nextToReset_130 (by decide) ?_
            have e9 := Option.some.inj hF
            rcases hb_65 with ⟨a9, h8, h9⟩ | h8
            · have h7 := Sum.inl.inj (e9.trans h8)
              subst h7
              exact ih_65 _ _ _ _ _ h9 hw hS (kh_sub hl [2, 3, 4, 5, 6, 7, 1, 0] rfl)
            · exact absurd (e9.trans h8) (fun z => nomatch z)
          have wL124 : ∀ (x7_124 : Int32) (H : Heap) (locs : List Loc) (ls : Array Slot), f_X5_nextToReset_L124 ρ x1_c7 x2_c65 x3_c65 x4_c65 x5_c65 x7_124 = some q_65 → kh_w D ca A ad ρ H → va_S A s.heap H locs → kh_lv ls 8 [(0, .ref (ad 15 0)), (1, .int x1_c7), (2, .int x2_c65), (3, .int x3_c65), (4, .int x4_c65), (5, .int x5_c65), (7, .int x7_124)] → W p l e (headSpec wsX5_nextToReset ({ frames := 0, cells := 0, slots := 0, locals := 0 } : Room)).room s m ([.ref (ad 15 0), .int x1]).toArray below meth c H locs 0 0 (MQ below (kh_Qi D ca A ad (kh_pu (f_X5_nextToReset ρ x1) ρ)) ([.ref (ad 15 0), .int x1]).toArray s 0 0 A) (F0 m 124 ls []) := by
            intro x7_124 H locs ls hF hw hS hl
            unfold f_X5_nextToReset_L124 at hF
            refine lv_iconst (v := (0 : Int32)) C.1 C.2.1 dX5_nextToReset_124 (by decide) ?_
            exact wL125 x7_124 (0 : Int32) _ _ _ hF hw hS (kh_sub hl [0, 1, 2, 3, 4, 5, 6] rfl)
          have wL120 : ∀ (x7_120 : Int32) (H : Heap) (locs : List Loc) (ls : Array Slot), f_X5_nextToReset_L120 ρ x1_c7 x2_c65 x3_c65 x4_c65 x5_c65 x7_120 = some q_65 → kh_w D ca A ad ρ H → va_S A s.heap H locs → kh_lv ls 8 [(0, .ref (ad 15 0)), (1, .int x1_c7), (2, .int x2_c65), (3, .int x3_c65), (4, .int x4_c65), (5, .int x5_c65), (7, .int x7_120)] → W p l e (headSpec wsX5_nextToReset ({ frames := 0, cells := 0, slots := 0, locals := 0 } : Room)).room s m ([.ref (ad 15 0), .int x1]).toArray below meth c H locs 0 0 (MQ below (kh_Qi D ca A ad (kh_pu (f_X5_nextToReset ρ x1) ρ)) ([.ref (ad 15 0), .int x1]).toArray s 0 0 A) (F0 m 120 ls []) := by
            intro x7_120 H locs ls hF hw hS hl
            unfold f_X5_nextToReset_L120 at hF
            refine lv_iconst (v := (1 : Int32)) C.1 C.2.1 dX5_nextToReset_120 (by decide) ?_
            refine lv_goto (tgt := 125) C.1 C.2.1 dX5_nextToReset_121 (by decide) ?_
            exact wL125 x7_120 (1 : Int32) _ _ _ hF hw hS (kh_sub hl [0, 1, 2, 3, 4, 5, 6] rfl)
          unfold f_X5_nextToReset_B65 at hF
          refine lv_iload C.1 C.2.1 dX5_nextToReset_65 (kh_at hl 7 rfl) ?_
          refine lv_aload_n C.1 C.2.1 dX5_nextToReset_67 rfl (kh_at hl 0 rfl) ?_
          refine kh_get C hw 15 5 rfl (kh_z15 ρ) kh_kd15 (Cn := RX5) (T := TX5) (N := 33) rfl (Nat.le_of_ble_eq_true rfl) k_13 (kf_15_5 ad ρ 0) dX5_nextToReset_68 ?_
          refine lv_iload_n C.1 C.2.1 dX5_nextToReset_71 rfl (kh_at hl 1 rfl) ?_
          obtain ⟨g_3, hF⟩ := kh_gd_ok hF
          refine kh_iald C hw 25 rfl (kh_z25 ρ) kh_kd25 g_3 dX5_nextToReset_72 ?_
          refine lv_icmp_ge (tgt := 133) C.1 C.2.1 dX5_nextToReset_73 (by decide) (fun c_4 => ?_) (fun c_4 => ?_)
          · have hF := kh_ift hF c_4
            have e9 := Option.some.inj hF
            rcases hb_65 with ⟨a9, h8, h9⟩ | h8
            · exact absurd (e9.trans h8) (fun z => nomatch z)
            have h7 := Sum.inr.inj (e9.trans h8)
            have hF := (congrArg (f_X5_nextToReset_A65 ρ x1_c7 x2_c65 x3_c65 x4_c65 x5_c65) h7).trans hA_65
            exact wL133 x2_c65 x3_c65 x4_c65 y6_65 _ _ _ hF hw hS (kh_sub hl [0, 1, 2, 3, 4, 6] rfl)
          · have hF := kh_iff hF c_4
            refine lv_iload C.1 C.2.1 dX5_nextToReset_76 (kh_at hl 6 rfl) ?_
            refine lv_if_eq (tgt := 124) C.1 C.2.1 dX5_nextToReset_78 (by decide) (fun c_5 => ?_) (fun c_5 => ?_)
            · have hF := kh_ift hF c_5
              exact wL124 y7_65 _ _ _ hF hw hS (kh_sub hl [0, 1, 2, 3, 4, 5, 7] rfl)
            · have hF := kh_iff hF c_5
              refine lv_iload C.1 C.2.1 dX5_nextToReset_81 (kh_at hl 7 rfl) ?_
              refine lv_iload C.1 C.2.1 dX5_nextToReset_83 (kh_at hl 4 rfl) ?_
              refine lv_icmp_eq (tgt := 120) C.1 C.2.1 dX5_nextToReset_85 (by decide) (fun c_6 => ?_) (fun c_6 => ?_)
              · have hF := kh_ift hF c_6
                exact wL120 y7_65 _ _ _ hF hw hS (kh_sub hl [0, 1, 2, 3, 4, 5, 7] rfl)
              · have hF := kh_iff hF c_6
                refine lv_aload_n C.1 C.2.1 dX5_nextToReset_88 rfl (kh_at hl 0 rfl) ?_
                refine kh_get C hw 15 7 rfl (kh_z15 ρ) kh_kd15 (Cn := RX5) (T := TX5) (N := 33) rfl (Nat.le_of_ble_eq_true rfl) k_19 (kf_15_7 ad ρ 0) dX5_nextToReset_89 ?_
                refine lv_iload_n C.1 C.2.1 dX5_nextToReset_92 rfl (kh_at hl 1 rfl) ?_
                refine kh_iald C hw 27 rfl (kh_z27 ρ) kh_kd27 g_3 dX5_nextToReset_93 ?_
                refine lv_iload C.1 C.2.1 dX5_nextToReset_94 (kh_at hl 7 rfl) ?_
                refine lv_ishr C.1 C.2.1 dX5_nextToReset_96 ?_
                refine lv_iconst (v := (1 : Int32)) C.1 C.2.1 dX5_nextToReset_97 (by decide) ?_
                refine lv_iand C.1 C.2.1 dX5_nextToReset_98 ?_
                refine lv_if_eq (tgt := 120) C.1 C.2.1 dX5_nextToReset_99 (by decide) (fun c_7 => ?_) (fun c_7 => ?_)
                · have hF := kh_ift hF c_7
                  exact wL120 y7_65 _ _ _ hF hw hS (kh_sub hl [0, 1, 2, 3, 4, 5, 7] rfl)
                · have hF := kh_iff hF c_7
                  refine lv_aload_n C.1 C.2.1 dX5_nextToReset_102 rfl (kh_at hl 0 rfl) ?_
                  refine kh_get C hw 15 10 rfl (kh_z15 ρ) kh_kd15 (Cn := RX5) (T := TX5) (N := 33) rfl (Nat.le_of_ble_eq_true rfl) k_28 (kf_15_10 ad ρ 0) dX5_nextToReset_103 ?_
                  refine lv_bipush (v := (8 : Int32)) C.1 C.2.1 dX5_nextToReset_106 (by decide) ?_
                  refine lv_iload_n C.1 C.2.1 dX5_nextToReset_108 rfl (kh_at hl 1 rfl) ?_
                  refine lv_imul C.1 C.2.1 dX5_nextToReset_109 ?_
                  refine lv_iload C.1 C.2.1 dX5_nextToReset_110 (kh_at hl 7 rfl) ?_
                  refine lv_iadd C.1 C.2.1 dX5_nextToReset_112 ?_
                  obtain ⟨g_8, hF⟩ := kh_gd_ok hF
                  refine kh_iald C hw 30 rfl (kh_z30 ρ) kh_kd30 g_8 dX5_nextToReset_113 ?_
                  refine lv_iload C.1 C.2.1 dX5_nextToReset_114 (kh_at hl 5 rfl) ?_
                  refine lv_iand C.1 C.2.1 dX5_nextToReset_116 ?_
                  refine lv_if_ne (tgt := 124) C.1 C.2.1 dX5_nextToReset_117 (by decide) (fun c_9 => ?_) (fun c_9 => ?_)
                  · have hF := kh_iff hF c_9
                    exact wL124 y7_65 _ _ _ hF hw hS (kh_sub hl [0, 1, 2, 3, 4, 5, 7] rfl)
                  · have hF := kh_ift hF c_9
                    exact wL120 y7_65 _ _ _ hF hw hS (kh_sub hl [0, 1, 2, 3, 4, 5, 7] rfl)
      unfold f_X5_nextToReset_B7 at hF
      refine lv_iload C.1 C.2.1 dX5_nextToReset_7 (kh_at hl 4 rfl) ?_
      refine lv_aload_n C.1 C.2.1 dX5_nextToReset_9 rfl (kh_at hl 0 rfl) ?_
      refine kh_get C hw 15 5 rfl (kh_z15 ρ) kh_kd15 (Cn := RX5) (T := TX5) (N := 33) rfl (Nat.le_of_ble_eq_true rfl) k_13 (kf_15_5 ad ρ 0) dX5_nextToReset_10 ?_
      refine lv_iload_n C.1 C.2.1 dX5_nextToReset_13 rfl (kh_at hl 1 rfl) ?_
      obtain ⟨g_10, hF⟩ := kh_gd_ok hF
      refine kh_iald C hw 25 rfl (kh_z25 ρ) kh_kd25 g_10 dX5_nextToReset_14 ?_
      refine lv_icmp_ge (tgt := 151) C.1 C.2.1 dX5_nextToReset_15 (by decide) (fun c_11 => ?_) (fun c_11 => ?_)
      · have hF := kh_ift hF c_11
        have e9 := Option.some.inj hF
        rcases hb_7 with ⟨a9, h8, h9⟩ | h8
        · exact absurd (e9.trans h8) (fun z => nomatch z)
        have h7 := Sum.inr.inj (e9.trans h8)
        have hF := (congrArg (f_X5_nextToReset_A7 ρ x1_c7) h7).trans hA_7
        exact wL151 y2_7 y3_7 _ _ _ hF hw hS (kh_sub hl [2, 3] rfl)
      · have hF := kh_iff hF c_11
        refine lv_aload_n C.1 C.2.1 dX5_nextToReset_18 rfl (kh_at hl 0 rfl) ?_
        refine kh_get C hw 15 7 rfl (kh_z15 ρ) kh_kd15 (Cn := RX5) (T := TX5) (N := 33) rfl (Nat.le_of_ble_eq_true rfl) k_19 (kf_15_7 ad ρ 0) dX5_nextToReset_19 ?_
        refine lv_iload_n C.1 C.2.1 dX5_nextToReset_22 rfl (kh_at hl 1 rfl) ?_
        refine kh_iald C hw 27 rfl (kh_z27 ρ) kh_kd27 g_10 dX5_nextToReset_23 ?_
        refine lv_iload C.1 C.2.1 dX5_nextToReset_24 (kh_at hl 4 rfl) ?_
        refine lv_ishr C.1 C.2.1 dX5_nextToReset_26 ?_
        refine lv_iconst (v := (1 : Int32)) C.1 C.2.1 dX5_nextToReset_27 (by decide) ?_
        refine lv_iand C.1 C.2.1 dX5_nextToReset_28 ?_
        refine lv_iconst (v := (1 : Int32)) C.1 C.2.1 dX5_nextToReset_29 (by decide) ?_
        refine lv_icmp_ne (tgt := 145) C.1 C.2.1 dX5_nextToReset_30 (by decide) (fun c_12 => ?_) (fun c_12 => ?_)
        · have hF := kh_iff hF c_12
          exact wL145 y2_7 y3_7 y4_7 _ _ _ hF hw hS (kh_sub hl [0, 1, 2, 3, 4] rfl)
        · have hF := kh_ift hF c_12
          refine lv_iload C.1 C.2.1 dX5_nextToReset_33 (kh_at hl 4 rfl) ?_
          refine kh_istore_n (lv' := [(2, .int y4_7), (0, .ref (ad 15 0)), (1, .int x1_c7), (3, .int y3_7), (4, .int y4_7)]) C.1 C.2.1 dX5_nextToReset_35 rfl hl (by decide) rfl (fun ls hl => ?_)
          refine lv_aload_n C.1 C.2.1 dX5_nextToReset_36 rfl (kh_at hl 1 rfl) ?_
          refine kh_get C hw 15 11 rfl (kh_z15 ρ) kh_kd15 (Cn := RX5) (T := TX5) (N := 33) rfl (Nat.le_of_ble_eq_true rfl) k_31 (kf_15_11 ad ρ 0) dX5_nextToReset_37 ?_
          refine lv_bipush (v := (8 : Int32)) C.1 C.2.1 dX5_nextToReset_40 (by decide) ?_
          refine lv_iload_n C.1 C.2.1 dX5_nextToReset_42 rfl (kh_at hl 2 rfl) ?_
          refine lv_imul C.1 C.2.1 dX5_nextToReset_43 ?_
          refine lv_iload C.1 C.2.1 dX5_nextToReset_44 (kh_at hl 4 rfl) ?_
          refine lv_iadd C.1 C.2.1 dX5_nextToReset_46 ?_
          obtain ⟨g_13, hF⟩ := kh_gd_ok hF
          refine kh_iald C hw 31 rfl (kh_z31 ρ) kh_kd31 g_13 dX5_nextToReset_47 ?_
          refine lv_aload_n C.1 C.2.1 dX5_nextToReset_48 rfl (kh_at hl 1 rfl) ?_
          refine kh_get C hw 15 4 rfl (kh_z15 ρ) kh_kd15 (Cn := RX5) (T := TX5) (N := 33) rfl (Nat.le_of_ble_eq_true rfl) k_7 (kf_15_4 ad ρ 0) dX5_nextToReset_49 ?_
          refine lv_iload_n C.1 C.2.1 dX5_nextToReset_52 rfl (kh_at hl 2 rfl) ?_
          refine kh_iald C hw 24 rfl (kh_z24 ρ) kh_kd24 g_10 dX5_nextToReset_53 ?_
          refine lv_iconst (v := (-1 : Int32)) C.1 C.2.1 dX5_nextToReset_54 (by decide) ?_
          refine lv_ixor C.1 C.2.1 dX5_nextToReset_55 ?_
          refine lv_iand C.1 C.2.1 dX5_nextToReset_56 ?_
          refine kh_istore (lv' := [(5, .int ((ρ 31 0 0 (((8 : Int32) * x1_c7) + y4_7).toNatClampNeg) &&& ((ρ 24 0 0 x1_c7.toNatClampNeg) ^^^ (-1 : Int32)))), (2, .int y4_7), (0, .ref (ad 15 0)), (1, .int x1_c7), (3, .int y3_7), (4, .int y4_7)]) C.1 C.2.1 dX5_nextToReset_57 hl (by decide) rfl (fun ls hl => ?_)
          refine lv_iconst (v := (1 : Int32)) C.1 C.2.1 dX5_nextToReset_59 (by decide) ?_
          refine kh_istore (lv' := [(6, .int (1 : Int32)), (5, .int ((ρ 31 0 0 (((8 : Int32) * x1_c7) + y4_7).toNatClampNeg) &&& ((ρ 24 0 0 x1_c7.toNatClampNeg) ^^^ (-1 : Int32)))), (2, .int y4_7), (0, .ref (ad 15 0)), (1, .int x1_c7), (3, .int y3_7), (4, .int y4_7)]) C.1 C.2.1 dX5_nextToReset_60 hl (by decide) rfl (fun ls hl => ?_)
          refine lv_iconst (v := (0 : Int32)) C.1 C.2.1 dX5_nextToReset_62 (by decide) ?_
          refine kh_istore (lv' := [(7, .int (0 : Int32)), (6, .int (1 : Int32)), (5, .int ((ρ 31 0 0 (((8 : Int32) * x1_c7) + y4_7).toNatClampNeg) &&& ((ρ 24 0 0 x1_c7.toNatClampNeg) ^^^ (-1 : Int32)))), (2, .int y4_7), (0, .ref (ad 15 0)), (1, .int x1_c7), (3, .int y3_7), (4, .int y4_7)]) C.1 C.2.1 dX5_nextToReset_63 hl (by decide) rfl (fun ls hl => ?_)
          obtain ⟨b_65, hb_65, hF⟩ := kh_bd_ok hF
          exact wB65 y4_7 y3_7 y4_7 ((ρ 31 0 0 (((8 : Int32) * x1_c7) + y4_7).toNatClampNeg) &&& ((ρ 24 0 0 x1_c7.toNatClampNeg) ^^^ (-1 : Int32))) b_65 hF _ (1 : Int32) (0 : Int32) _ _ _ hb_65 hw hS (kh_sub hl [4, 5, 3, 6, 7, 2, 1, 0] rfl)
  refine lv_iconst (v := (-1 : Int32)) C.1 C.2.1 dX5_nextToReset_0 (by decide) ?_
  refine kh_istore_n (lv' := [(2, .int (-1 : Int32)), (0, .ref (ad 15 0)), (1, .int x1)]) C.1 C.2.1 dX5_nextToReset_1 rfl hl (by decide) rfl (fun ls hl => ?_)
  refine lv_iconst (v := (-1 : Int32)) C.1 C.2.1 dX5_nextToReset_2 (by decide) ?_
  refine kh_istore_n (lv' := [(3, .int (-1 : Int32)), (2, .int (-1 : Int32)), (0, .ref (ad 15 0)), (1, .int x1)]) C.1 C.2.1 dX5_nextToReset_3 rfl hl (by decide) rfl (fun ls hl => ?_)
  refine lv_iconst (v := (0 : Int32)) C.1 C.2.1 dX5_nextToReset_4 (by decide) ?_
  refine kh_istore (lv' := [(4, .int (0 : Int32)), (3, .int (-1 : Int32)), (2, .int (-1 : Int32)), (0, .ref (ad 15 0)), (1, .int x1)]) C.1 C.2.1 dX5_nextToReset_5 hl (by decide) rfl (fun ls hl => ?_)
  obtain ⟨b_7, hb_7, hF⟩ := kh_bd_ok hF
  exact wB7 x1 b_7 hF _ (-1 : Int32) (-1 : Int32) (0 : Int32) _ _ _ hb_7 hw hS (kh_sub hl [3, 4, 2, 1, 0] rfl)

def f_X5_isDone (ρ : kh_S) (x1 : Int32) : Option (kh_S) := kh_gd (kh_in x1 3) (kh_gd (kh_in (ρ 43 0 0 x1.toNatClampNeg) 4) (some (kh_up (kh_up (kh_up ρ 26 0 0 (ρ 43 0 0 x1.toNatClampNeg).toNatClampNeg (0 : Int32)) 43 0 0 x1.toNatClampNeg (-1 : Int32)) 44 0 0 x1.toNatClampNeg (-1 : Int32))))
set_option maxHeartbeats 4000000 in
set_option maxRecDepth 100000 in
theorem c_X5_isDone (l : Launch) (D : va_G) (ca : Nat → ClassId) (A : Nat → Prop) (ad : Nat → Nat → Nat) (ρ : kh_S) (x1 : Int32) {q0 : kh_S} (hF0 : f_X5_isDone ρ x1 = some q0) : Met l yX5_isDone wsX5_isDone ({ frames := 0, cells := 0, slots := 0, locals := 0 } : Room) (va_Pc [.ref (ad 15 0), .int x1] (kh_I D ca A ad ρ)) (kh_Qv D ca A ad (f_X5_isDone ρ x1)) 0 0 A := by
  refine Met.ofW (cc := cX5_isDone) (maxL := 2) (ret := none) (by decide) rfl ?_
  intro p e s m args below meth c s₁ B hml hv
  obtain ⟨rfl, hK, hw, hA⟩ := hv
  have C : kh_C p s m ([.ref (ad 15 0), .int x1]).toArray c cX5_isDone 2 RX5 wsX5_isDone D ca A := ⟨B.exec, B.bytes, hml, findClass_of_methodNamed B.named, atoms_spec (ws := wsX5_isDone) B.pre, hK, hA⟩
  have hr := B.returns
  have hlocks := B.notSynchronized
  have hS : va_S A s.heap s.heap [] := va_S.rf
  have hl := kh_entry ([.ref (ad 15 0), .int x1]) (n := 2) (kh_ac rfl (kh_ac rfl kh_an)) (Nat.le_of_ble_eq_true rfl)
  rw [lg_entry_eq]
  generalize (lg_sl ([.ref (ad 15 0), .int x1]) ++ List.replicate (2 - (lg_sl ([.ref (ad 15 0), .int x1])).length) Slot.unset).toArray = ls at hl ⊢
  have hl : kh_lv ls 2 [(0, .ref (ad 15 0)), (1, .int x1)] := hl
  have k_16 := C.2.2.2.2.1 (.fieldLink RX5 16 "KeylessHallModel" "state" "[I") (by decide +kernel)
  have k_64 := C.2.2.2.2.1 (.fieldLink RX5 64 "KeylessHallModel" "crewRoom" "[I") (by decide +kernel)
  have k_67 := C.2.2.2.2.1 (.fieldLink RX5 67 "KeylessHallModel" "crewPuzzle" "[I") (by decide +kernel)
  have hF := hF0
  unfold f_X5_isDone at hF
  refine lv_aload_n C.1 C.2.1 dX5_isDone_0 rfl (kh_at hl 0 rfl) ?_
  refine kh_get C hw 15 6 rfl (kh_z15 ρ) kh_kd15 (Cn := RX5) (T := TX5) (N := 33) rfl (Nat.le_of_ble_eq_true rfl) k_16 (kf_15_6 ad ρ 0) dX5_isDone_1 ?_
  refine lv_aload_n C.1 C.2.1 dX5_isDone_4 rfl (kh_at hl 0 rfl) ?_
  refine kh_get C hw 15 23 rfl (kh_z15 ρ) kh_kd15 (Cn := RX5) (T := TX5) (N := 33) rfl (Nat.le_of_ble_eq_true rfl) k_64 (kf_15_23 ad ρ 0) dX5_isDone_5 ?_
  refine lv_iload_n C.1 C.2.1 dX5_isDone_8 rfl (kh_at hl 1 rfl) ?_
  obtain ⟨g_1, hF⟩ := kh_gd_ok hF
  refine kh_iald C hw 43 rfl (kh_z43 ρ) kh_kd43 g_1 dX5_isDone_9 ?_
  refine lv_iconst (v := (0 : Int32)) C.1 C.2.1 dX5_isDone_10 (by decide) ?_
  obtain ⟨g_2, hF⟩ := kh_gd_ok hF
  refine kh_iast C hw hS 26 rfl (kh_z26 ρ) (by decide) kh_kd26 g_2 dX5_isDone_11 (fun H locs hw hS => ?_)
  refine lv_aload_n C.1 C.2.1 dX5_isDone_12 rfl (kh_at hl 0 rfl) ?_
  refine kh_get C hw 15 23 rfl (kh_z15 (kh_up ρ 26 0 0 (ρ 43 0 0 x1.toNatClampNeg).toNatClampNeg (0 : Int32))) kh_kd15 (Cn := RX5) (T := TX5) (N := 33) rfl (Nat.le_of_ble_eq_true rfl) k_64 (kf_15_23 ad (kh_up ρ 26 0 0 (ρ 43 0 0 x1.toNatClampNeg).toNatClampNeg (0 : Int32)) 0) dX5_isDone_13 ?_
  refine lv_iload_n C.1 C.2.1 dX5_isDone_16 rfl (kh_at hl 1 rfl) ?_
  refine lv_iconst (v := (-1 : Int32)) C.1 C.2.1 dX5_isDone_17 (by decide) ?_
  refine kh_iast C hw hS 43 rfl (kh_z43 (kh_up ρ 26 0 0 (ρ 43 0 0 x1.toNatClampNeg).toNatClampNeg (0 : Int32))) (by decide) kh_kd43 g_1 dX5_isDone_18 (fun H locs hw hS => ?_)
  refine lv_aload_n C.1 C.2.1 dX5_isDone_19 rfl (kh_at hl 0 rfl) ?_
  refine kh_get C hw 15 24 rfl (kh_z15 (kh_up (kh_up ρ 26 0 0 (ρ 43 0 0 x1.toNatClampNeg).toNatClampNeg (0 : Int32)) 43 0 0 x1.toNatClampNeg (-1 : Int32))) kh_kd15 (Cn := RX5) (T := TX5) (N := 33) rfl (Nat.le_of_ble_eq_true rfl) k_67 (kf_15_24 ad (kh_up (kh_up ρ 26 0 0 (ρ 43 0 0 x1.toNatClampNeg).toNatClampNeg (0 : Int32)) 43 0 0 x1.toNatClampNeg (-1 : Int32)) 0) dX5_isDone_20 ?_
  refine lv_iload_n C.1 C.2.1 dX5_isDone_23 rfl (kh_at hl 1 rfl) ?_
  refine lv_iconst (v := (-1 : Int32)) C.1 C.2.1 dX5_isDone_24 (by decide) ?_
  refine kh_iast C hw hS 44 rfl (kh_z44 (kh_up (kh_up ρ 26 0 0 (ρ 43 0 0 x1.toNatClampNeg).toNatClampNeg (0 : Int32)) 43 0 0 x1.toNatClampNeg (-1 : Int32))) (by decide) kh_kd44 g_1 dX5_isDone_25 (fun H locs hw hS => ?_)
  exact W.vret C.1 C.2.1 hr (fun t ht hW => ⟨⟨kh_up (kh_up (kh_up ρ 26 0 0 (ρ 43 0 0 x1.toNatClampNeg).toNatClampNeg (0 : Int32)) 43 0 0 x1.toNatClampNeg (-1 : Int32)) 44 0 0 x1.toNatClampNeg (-1 : Int32), rfl, hF0.trans hF.symm, kh_bk ht hw⟩, hS.F ht⟩) hS.2.2 dX5_isDone_26

def f_X5_begins_L117 (ρ_117 : kh_S) : Option (kh_S) := some ρ_117
def f_X5_begins_L61 (ρ_61 : kh_S) (x1_61 : Int32) (x2_61 : Int32) (x3_61 : Int32) : Option (kh_S) := kh_gd (kh_in x1_61 3) (if x3_61 = (-1 : Int32) then if ((kh_up ρ_61 44 0 0 x1_61.toNatClampNeg x3_61) 46 0 0 x1_61.toNatClampNeg) = 0 then kh_bd (f_X5_isDone (kh_up ρ_61 44 0 0 x1_61.toNatClampNeg x3_61) x1_61) (fun ρ_4 => f_X5_begins_L117 ρ_4) else f_X5_begins_L117 (kh_up (kh_up ρ_61 44 0 0 x1_61.toNatClampNeg x3_61) 45 0 0 x1_61.toNatClampNeg (5 : Int32)) else kh_gd (kh_in (((8 : Int32) * x2_61) + x3_61) 32) (f_X5_begins_L117 (kh_up (kh_up ρ_61 44 0 0 x1_61.toNatClampNeg x3_61) 45 0 0 x1_61.toNatClampNeg ((kh_up ρ_61 44 0 0 x1_61.toNatClampNeg x3_61) 33 0 0 (((8 : Int32) * x2_61) + x3_61).toNatClampNeg))))
def f_X5_begins (ρ : kh_S) (x1 : Int32) : Option (kh_S) := kh_gd (kh_in x1 3) (kh_bd (f_X5_nextToReset ρ (ρ 43 0 0 x1.toNatClampNeg)) (fun r_7 => if r_7 = (-1 : Int32) then if (ρ 46 0 0 x1.toNatClampNeg) = 0 then f_X5_begins_L61 ρ x1 (ρ 43 0 0 x1.toNatClampNeg) r_7 else kh_gd (kh_in (ρ 43 0 0 x1.toNatClampNeg) 4) (if (ρ 28 0 0 (ρ 43 0 0 x1.toNatClampNeg).toNatClampNeg) = 0 then f_X5_begins_L61 ρ x1 (ρ 43 0 0 x1.toNatClampNeg) r_7 else kh_bd (f_X5_nextToReset (kh_up (kh_up ρ 27 0 0 (ρ 43 0 0 x1.toNatClampNeg).toNatClampNeg (ρ 28 0 0 (ρ 43 0 0 x1.toNatClampNeg).toNatClampNeg)) 28 0 0 (ρ 43 0 0 x1.toNatClampNeg).toNatClampNeg (0 : Int32)) (ρ 43 0 0 x1.toNatClampNeg)) (fun r_12 => f_X5_begins_L61 (kh_up (kh_up ρ 27 0 0 (ρ 43 0 0 x1.toNatClampNeg).toNatClampNeg (ρ 28 0 0 (ρ 43 0 0 x1.toNatClampNeg).toNatClampNeg)) 28 0 0 (ρ 43 0 0 x1.toNatClampNeg).toNatClampNeg (0 : Int32)) x1 (ρ 43 0 0 x1.toNatClampNeg) r_12)) else f_X5_begins_L61 ρ x1 (ρ 43 0 0 x1.toNatClampNeg) r_7))
set_option maxHeartbeats 4000000 in
set_option maxRecDepth 100000 in
theorem c_X5_begins (l : Launch) (D : va_G) (ca : Nat → ClassId) (A : Nat → Prop) (ad : Nat → Nat → Nat) (ρ : kh_S) (x1 : Int32) {q0 : kh_S} (hF0 : f_X5_begins ρ x1 = some q0) : Met l yX5_begins wsX5_begins ({ frames := 1, cells := 0, slots := 0, locals := 27 } : Room) (va_Pc [.ref (ad 15 0), .int x1] (kh_I D ca A ad ρ)) (kh_Qv D ca A ad (f_X5_begins ρ x1)) 0 0 A := by
  refine Met.ofW (cc := cX5_begins) (maxL := 4) (ret := none) (by decide) rfl ?_
  intro p e s m args below meth c s₁ B hml hv
  obtain ⟨rfl, hK, hw, hA⟩ := hv
  have C : kh_C p s m ([.ref (ad 15 0), .int x1]).toArray c cX5_begins 4 RX5 wsX5_begins D ca A := ⟨B.exec, B.bytes, hml, findClass_of_methodNamed B.named, atoms_spec (ws := wsX5_begins) B.pre, hK, hA⟩
  have hr := B.returns
  have hlocks := B.notSynchronized
  have hS : va_S A s.heap s.heap [] := va_S.rf
  have hl := kh_entry ([.ref (ad 15 0), .int x1]) (n := 4) (kh_ac rfl (kh_ac rfl kh_an)) (Nat.le_of_ble_eq_true rfl)
  rw [lg_entry_eq]
  generalize (lg_sl ([.ref (ad 15 0), .int x1]) ++ List.replicate (4 - (lg_sl ([.ref (ad 15 0), .int x1])).length) Slot.unset).toArray = ls at hl ⊢
  have hl : kh_lv ls 4 [(0, .ref (ad 15 0)), (1, .int x1)] := hl
  have k_67 := C.2.2.2.2.1 (.fieldLink RX5 67 "KeylessHallModel" "crewPuzzle" "[I") (by decide +kernel)
  have k_73 := C.2.2.2.2.1 (.fieldLink RX5 73 "KeylessHallModel" "crewChecks" "[Z") (by decide +kernel)
  have k_70 := C.2.2.2.2.1 (.fieldLink RX5 70 "KeylessHallModel" "crewLeft" "[I") (by decide +kernel)
  have k_37 := C.2.2.2.2.1 (.fieldLink RX5 37 "KeylessHallModel" "takes" "[I") (by decide +kernel)
  have k_64 := C.2.2.2.2.1 (.fieldLink RX5 64 "KeylessHallModel" "crewRoom" "[I") (by decide +kernel)
  have k_22 := C.2.2.2.2.1 (.fieldLink RX5 22 "KeylessHallModel" "forgotten" "[I") (by decide +kernel)
  have k_19 := C.2.2.2.2.1 (.fieldLink RX5 19 "KeylessHallModel" "toReset" "[I") (by decide +kernel)
  have hF := hF0
  unfold f_X5_begins at hF
  have wL117 : ∀ (ρ_117 : kh_S) (H : Heap) (locs : List Loc) (ls : Array Slot), f_X5_begins_L117 ρ_117 = some q0 → kh_w D ca A ad ρ_117 H → va_S A s.heap H locs → kh_lv ls 4 [] → W p l e (headSpec wsX5_begins ({ frames := 1, cells := 0, slots := 0, locals := 27 } : Room)).room s m ([.ref (ad 15 0), .int x1]).toArray below meth c H locs 0 0 (MQ below (kh_Qv D ca A ad (f_X5_begins ρ x1)) ([.ref (ad 15 0), .int x1]).toArray s 0 0 A) (F0 m 117 ls []) := by
    intro ρ_117 H locs ls hF hw hS hl
    unfold f_X5_begins_L117 at hF
    exact W.vret C.1 C.2.1 hr (fun t ht hW => ⟨⟨ρ_117, rfl, hF0.trans hF.symm, kh_bk ht hw⟩, hS.F ht⟩) hS.2.2 dX5_begins_117
  have wL61 : ∀ (ρ_61 : kh_S) (x1_61 : Int32) (x2_61 : Int32) (x3_61 : Int32) (H : Heap) (locs : List Loc) (ls : Array Slot), f_X5_begins_L61 ρ_61 x1_61 x2_61 x3_61 = some q0 → kh_w D ca A ad ρ_61 H → va_S A s.heap H locs → kh_lv ls 4 [(0, .ref (ad 15 0)), (1, .int x1_61), (2, .int x2_61), (3, .int x3_61)] → W p l e (headSpec wsX5_begins ({ frames := 1, cells := 0, slots := 0, locals := 27 } : Room)).room s m ([.ref (ad 15 0), .int x1]).toArray below meth c H locs 0 0 (MQ below (kh_Qv D ca A ad (f_X5_begins ρ x1)) ([.ref (ad 15 0), .int x1]).toArray s 0 0 A) (F0 m 61 ls []) := by
    intro ρ_61 x1_61 x2_61 x3_61 H locs ls hF hw hS hl
    unfold f_X5_begins_L61 at hF
    refine lv_aload_n C.1 C.2.1 dX5_begins_61 rfl (kh_at hl 0 rfl) ?_
    refine kh_get C hw 15 24 rfl (kh_z15 ρ_61) kh_kd15 (Cn := RX5) (T := TX5) (N := 33) rfl (Nat.le_of_ble_eq_true rfl) k_67 (kf_15_24 ad ρ_61 0) dX5_begins_62 ?_
    refine lv_iload_n C.1 C.2.1 dX5_begins_65 rfl (kh_at hl 1 rfl) ?_
    refine lv_iload_n C.1 C.2.1 dX5_begins_66 rfl (kh_at hl 3 rfl) ?_
    obtain ⟨g_1, hF⟩ := kh_gd_ok hF
    refine kh_iast C hw hS 44 rfl (kh_z44 ρ_61) (by decide) kh_kd44 g_1 dX5_begins_67 (fun H locs hw hS => ?_)
    refine lv_iload_n C.1 C.2.1 dX5_begins_68 rfl (kh_at hl 3 rfl) ?_
    refine lv_iconst (v := (-1 : Int32)) C.1 C.2.1 dX5_begins_69 (by decide) ?_
    refine lv_icmp_eq (tgt := 93) C.1 C.2.1 dX5_begins_70 (by decide) (fun c_2 => ?_) (fun c_2 => ?_)
    · have hF := kh_ift hF c_2
      refine lv_aload_n C.1 C.2.1 dX5_begins_93 rfl (kh_at hl 0 rfl) ?_
      refine kh_get C hw 15 26 rfl (kh_z15 (kh_up ρ_61 44 0 0 x1_61.toNatClampNeg x3_61)) kh_kd15 (Cn := RX5) (T := TX5) (N := 33) rfl (Nat.le_of_ble_eq_true rfl) k_73 (kf_15_26 ad (kh_up ρ_61 44 0 0 x1_61.toNatClampNeg x3_61) 0) dX5_begins_94 ?_
      refine lv_iload_n C.1 C.2.1 dX5_begins_97 rfl (kh_at hl 1 rfl) ?_
      refine kh_zald C hw 46 rfl (kh_z46 (kh_up ρ_61 44 0 0 x1_61.toNatClampNeg x3_61)) kh_kd46 g_1 dX5_begins_98 ?_
      refine lv_if_eq (tgt := 112) C.1 C.2.1 dX5_begins_99 (by decide) (fun c_3 => ?_) (fun c_3 => ?_)
      · have hF := kh_ift hF c_3
        refine lv_aload_n C.1 C.2.1 dX5_begins_112 rfl (kh_at hl 0 rfl) ?_
        refine lv_iload_n C.1 C.2.1 dX5_begins_113 rfl (kh_at hl 1 rfl) ?_
        obtain ⟨ρ_4, h_4, hF⟩ := kh_bd_ok hF
        refine kh_callv (va_runV (As := [.int x1_61]) (rest := []) ⟨C.1, C.2.1, C.2.2.1, C.2.2.2.1, C.2.2.2.2.1⟩ (c_X5_isDone l D ca A ad (kh_up ρ_61 44 0 0 x1_61.toNatClampNeg x3_61) x1_61 h_4) (cwV 1 C.2.2.2.2.1 gX5_begins_X5_isDone rfl rfl rfl (by decide +kernel) ⟨Nat.le_of_ble_eq_true rfl, Nat.le_of_ble_eq_true rfl⟩) (kh_preV C hw hS 15 (kh_z15 (kh_up ρ_61 44 0 0 x1_61.toNatClampNeg x3_61)) kh_kd15 rfl) rfl rfl hl.1.1 rfl (lv_room (kh_sum kh_an (Nat.le_of_ble_eq_true rfl))) dX5_begins_114 ⟨Nat.le_of_ble_eq_true rfl, Nat.le_of_ble_eq_true rfl⟩) hS h_4 (fun H locs hw hS => ?_)
        exact wL117 ρ_4 _ _ _ hF hw hS (kh_sub hl [] rfl)
      · have hF := kh_iff hF c_3
        refine lv_aload_n C.1 C.2.1 dX5_begins_102 rfl (kh_at hl 0 rfl) ?_
        refine kh_get C hw 15 25 rfl (kh_z15 (kh_up ρ_61 44 0 0 x1_61.toNatClampNeg x3_61)) kh_kd15 (Cn := RX5) (T := TX5) (N := 33) rfl (Nat.le_of_ble_eq_true rfl) k_70 (kf_15_25 ad (kh_up ρ_61 44 0 0 x1_61.toNatClampNeg x3_61) 0) dX5_begins_103 ?_
        refine lv_iload_n C.1 C.2.1 dX5_begins_106 rfl (kh_at hl 1 rfl) ?_
        refine lv_iconst (v := (5 : Int32)) C.1 C.2.1 dX5_begins_107 (by decide) ?_
        refine kh_iast C hw hS 45 rfl (kh_z45 (kh_up ρ_61 44 0 0 x1_61.toNatClampNeg x3_61)) (by decide) kh_kd45 g_1 dX5_begins_108 (fun H locs hw hS => ?_)
        refine lv_goto (tgt := 117) C.1 C.2.1 dX5_begins_109 (by decide) ?_
        exact wL117 (kh_up (kh_up ρ_61 44 0 0 x1_61.toNatClampNeg x3_61) 45 0 0 x1_61.toNatClampNeg (5 : Int32)) _ _ _ hF hw hS (kh_sub hl [] rfl)
    · have hF := kh_iff hF c_2
      refine lv_aload_n C.1 C.2.1 dX5_begins_73 rfl (kh_at hl 0 rfl) ?_
      refine kh_get C hw 15 25 rfl (kh_z15 (kh_up ρ_61 44 0 0 x1_61.toNatClampNeg x3_61)) kh_kd15 (Cn := RX5) (T := TX5) (N := 33) rfl (Nat.le_of_ble_eq_true rfl) k_70 (kf_15_25 ad (kh_up ρ_61 44 0 0 x1_61.toNatClampNeg x3_61) 0) dX5_begins_74 ?_
      refine lv_iload_n C.1 C.2.1 dX5_begins_77 rfl (kh_at hl 1 rfl) ?_
      refine lv_aload_n C.1 C.2.1 dX5_begins_78 rfl (kh_at hl 0 rfl) ?_
      refine kh_get C hw 15 13 rfl (kh_z15 (kh_up ρ_61 44 0 0 x1_61.toNatClampNeg x3_61)) kh_kd15 (Cn := RX5) (T := TX5) (N := 33) rfl (Nat.le_of_ble_eq_true rfl) k_37 (kf_15_13 ad (kh_up ρ_61 44 0 0 x1_61.toNatClampNeg x3_61) 0) dX5_begins_79 ?_
      refine lv_bipush (v := (8 : Int32)) C.1 C.2.1 dX5_begins_82 (by decide) ?_
      refine lv_iload_n C.1 C.2.1 dX5_begins_84 rfl (kh_at hl 2 rfl) ?_
      refine lv_imul C.1 C.2.1 dX5_begins_85 ?_
      refine lv_iload_n C.1 C.2.1 dX5_begins_86 rfl (kh_at hl 3 rfl) ?_
      refine lv_iadd C.1 C.2.1 dX5_begins_87 ?_
      obtain ⟨g_5, hF⟩ := kh_gd_ok hF
      refine kh_iald C hw 33 rfl (kh_z33 (kh_up ρ_61 44 0 0 x1_61.toNatClampNeg x3_61)) kh_kd33 g_5 dX5_begins_88 ?_
      refine kh_iast C hw hS 45 rfl (kh_z45 (kh_up ρ_61 44 0 0 x1_61.toNatClampNeg x3_61)) (by decide) kh_kd45 g_1 dX5_begins_89 (fun H locs hw hS => ?_)
      refine lv_goto (tgt := 117) C.1 C.2.1 dX5_begins_90 (by decide) ?_
      exact wL117 (kh_up (kh_up ρ_61 44 0 0 x1_61.toNatClampNeg x3_61) 45 0 0 x1_61.toNatClampNeg ((kh_up ρ_61 44 0 0 x1_61.toNatClampNeg x3_61) 33 0 0 (((8 : Int32) * x2_61) + x3_61).toNatClampNeg)) _ _ _ hF hw hS (kh_sub hl [] rfl)
  refine lv_aload_n C.1 C.2.1 dX5_begins_0 rfl (kh_at hl 0 rfl) ?_
  refine kh_get C hw 15 23 rfl (kh_z15 ρ) kh_kd15 (Cn := RX5) (T := TX5) (N := 33) rfl (Nat.le_of_ble_eq_true rfl) k_64 (kf_15_23 ad ρ 0) dX5_begins_1 ?_
  refine lv_iload_n C.1 C.2.1 dX5_begins_4 rfl (kh_at hl 1 rfl) ?_
  obtain ⟨g_6, hF⟩ := kh_gd_ok hF
  refine kh_iald C hw 43 rfl (kh_z43 ρ) kh_kd43 g_6 dX5_begins_5 ?_
  refine kh_istore_n (lv' := [(2, .int (ρ 43 0 0 x1.toNatClampNeg)), (0, .ref (ad 15 0)), (1, .int x1)]) C.1 C.2.1 dX5_begins_6 rfl hl (by decide) rfl (fun ls hl => ?_)
  refine lv_aload_n C.1 C.2.1 dX5_begins_7 rfl (kh_at hl 1 rfl) ?_
  refine lv_iload_n C.1 C.2.1 dX5_begins_8 rfl (kh_at hl 0 rfl) ?_
  obtain ⟨r_7, h_7, hF⟩ := kh_bd_ok hF
  refine kh_calli (va_runV (As := [.int (ρ 43 0 0 x1.toNatClampNeg)]) (rest := []) ⟨C.1, C.2.1, C.2.2.1, C.2.2.2.1, C.2.2.2.2.1⟩ (c_X5_nextToReset l D ca A ad ρ (ρ 43 0 0 x1.toNatClampNeg) h_7) (cwV 1 C.2.2.2.2.1 gX5_begins_X5_nextToReset rfl rfl rfl (by decide +kernel) ⟨Nat.le_of_ble_eq_true rfl, Nat.le_of_ble_eq_true rfl⟩) (kh_preV C hw hS 15 (kh_z15 ρ) kh_kd15 rfl) rfl rfl hl.1.1 rfl (lv_room (kh_sum kh_an (Nat.le_of_ble_eq_true rfl))) dX5_begins_9 ⟨Nat.le_of_ble_eq_true rfl, Nat.le_of_ble_eq_true rfl⟩) hS (kh_mp h_7) (fun H locs hw hS => ?_)
  refine kh_istore_n (lv' := [(3, .int r_7), (2, .int (ρ 43 0 0 x1.toNatClampNeg)), (0, .ref (ad 15 0)), (1, .int x1)]) C.1 C.2.1 dX5_begins_12 rfl hl (by decide) rfl (fun ls hl => ?_)
  refine lv_iload_n C.1 C.2.1 dX5_begins_13 rfl (kh_at hl 0 rfl) ?_
  refine lv_iconst (v := (-1 : Int32)) C.1 C.2.1 dX5_begins_14 (by decide) ?_
  refine lv_icmp_ne (tgt := 61) C.1 C.2.1 dX5_begins_15 (by decide) (fun c_8 => ?_) (fun c_8 => ?_)
  · have hF := kh_iff hF c_8
    exact wL61 ρ x1 (ρ 43 0 0 x1.toNatClampNeg) r_7 _ _ _ hF hw hS (kh_sub hl [2, 3, 1, 0] rfl)
  · have hF := kh_ift hF c_8
    refine lv_aload_n C.1 C.2.1 dX5_begins_18 rfl (kh_at hl 2 rfl) ?_
    refine kh_get C hw 15 26 rfl (kh_z15 ρ) kh_kd15 (Cn := RX5) (T := TX5) (N := 33) rfl (Nat.le_of_ble_eq_true rfl) k_73 (kf_15_26 ad ρ 0) dX5_begins_19 ?_
    refine lv_iload_n C.1 C.2.1 dX5_begins_22 rfl (kh_at hl 3 rfl) ?_
    refine kh_zald C hw 46 rfl (kh_z46 ρ) kh_kd46 g_6 dX5_begins_23 ?_
    refine lv_if_eq (tgt := 61) C.1 C.2.1 dX5_begins_24 (by decide) (fun c_9 => ?_) (fun c_9 => ?_)
    · have hF := kh_ift hF c_9
      exact wL61 ρ x1 (ρ 43 0 0 x1.toNatClampNeg) r_7 _ _ _ hF hw hS (kh_sub hl [2, 3, 1, 0] rfl)
    · have hF := kh_iff hF c_9
      refine lv_aload_n C.1 C.2.1 dX5_begins_27 rfl (kh_at hl 2 rfl) ?_
      refine kh_get C hw 15 8 rfl (kh_z15 ρ) kh_kd15 (Cn := RX5) (T := TX5) (N := 33) rfl (Nat.le_of_ble_eq_true rfl) k_22 (kf_15_8 ad ρ 0) dX5_begins_28 ?_
      refine lv_iload_n C.1 C.2.1 dX5_begins_31 rfl (kh_at hl 1 rfl) ?_
      obtain ⟨g_10, hF⟩ := kh_gd_ok hF
      refine kh_iald C hw 28 rfl (kh_z28 ρ) kh_kd28 g_10 dX5_begins_32 ?_
      refine lv_if_eq (tgt := 61) C.1 C.2.1 dX5_begins_33 (by decide) (fun c_11 => ?_) (fun c_11 => ?_)
      · have hF := kh_ift hF c_11
        exact wL61 ρ x1 (ρ 43 0 0 x1.toNatClampNeg) r_7 _ _ _ hF hw hS (kh_sub hl [2, 3, 1, 0] rfl)
      · have hF := kh_iff hF c_11
        refine lv_aload_n C.1 C.2.1 dX5_begins_36 rfl (kh_at hl 2 rfl) ?_
        refine kh_get C hw 15 7 rfl (kh_z15 ρ) kh_kd15 (Cn := RX5) (T := TX5) (N := 33) rfl (Nat.le_of_ble_eq_true rfl) k_19 (kf_15_7 ad ρ 0) dX5_begins_37 ?_
        refine lv_iload_n C.1 C.2.1 dX5_begins_40 rfl (kh_at hl 1 rfl) ?_
        refine lv_aload_n C.1 C.2.1 dX5_begins_41 rfl (kh_at hl 2 rfl) ?_
        refine kh_get C hw 15 8 rfl (kh_z15 ρ) kh_kd15 (Cn := RX5) (T := TX5) (N := 33) rfl (Nat.le_of_ble_eq_true rfl) k_22 (kf_15_8 ad ρ 0) dX5_begins_42 ?_
        refine lv_iload_n C.1 C.2.1 dX5_begins_45 rfl (kh_at hl 1 rfl) ?_
        refine kh_iald C hw 28 rfl (kh_z28 ρ) kh_kd28 g_10 dX5_begins_46 ?_
        refine kh_iast C hw hS 27 rfl (kh_z27 ρ) (by decide) kh_kd27 g_10 dX5_begins_47 (fun H locs hw hS => ?_)
        refine lv_aload_n C.1 C.2.1 dX5_begins_48 rfl (kh_at hl 2 rfl) ?_
        refine kh_get C hw 15 8 rfl (kh_z15 (kh_up ρ 27 0 0 (ρ 43 0 0 x1.toNatClampNeg).toNatClampNeg (ρ 28 0 0 (ρ 43 0 0 x1.toNatClampNeg).toNatClampNeg))) kh_kd15 (Cn := RX5) (T := TX5) (N := 33) rfl (Nat.le_of_ble_eq_true rfl) k_22 (kf_15_8 ad (kh_up ρ 27 0 0 (ρ 43 0 0 x1.toNatClampNeg).toNatClampNeg (ρ 28 0 0 (ρ 43 0 0 x1.toNatClampNeg).toNatClampNeg)) 0) dX5_begins_49 ?_
        refine lv_iload_n C.1 C.2.1 dX5_begins_52 rfl (kh_at hl 1 rfl) ?_
        refine lv_iconst (v := (0 : Int32)) C.1 C.2.1 dX5_begins_53 (by decide) ?_
        refine kh_iast C hw hS 28 rfl (kh_z28 (kh_up ρ 27 0 0 (ρ 43 0 0 x1.toNatClampNeg).toNatClampNeg (ρ 28 0 0 (ρ 43 0 0 x1.toNatClampNeg).toNatClampNeg))) (by decide) kh_kd28 g_10 dX5_begins_54 (fun H locs hw hS => ?_)
        refine lv_aload_n C.1 C.2.1 dX5_begins_55 rfl (kh_at hl 2 rfl) ?_
        refine lv_iload_n C.1 C.2.1 dX5_begins_56 rfl (kh_at hl 1 rfl) ?_
        obtain ⟨r_12, h_12, hF⟩ := kh_bd_ok hF
        refine kh_calli (va_runV (As := [.int (ρ 43 0 0 x1.toNatClampNeg)]) (rest := []) ⟨C.1, C.2.1, C.2.2.1, C.2.2.2.1, C.2.2.2.2.1⟩ (c_X5_nextToReset l D ca A ad (kh_up (kh_up ρ 27 0 0 (ρ 43 0 0 x1.toNatClampNeg).toNatClampNeg (ρ 28 0 0 (ρ 43 0 0 x1.toNatClampNeg).toNatClampNeg)) 28 0 0 (ρ 43 0 0 x1.toNatClampNeg).toNatClampNeg (0 : Int32)) (ρ 43 0 0 x1.toNatClampNeg) h_12) (cwV 1 C.2.2.2.2.1 gX5_begins_X5_nextToReset rfl rfl rfl (by decide +kernel) ⟨Nat.le_of_ble_eq_true rfl, Nat.le_of_ble_eq_true rfl⟩) (kh_preV C hw hS 15 (kh_z15 (kh_up (kh_up ρ 27 0 0 (ρ 43 0 0 x1.toNatClampNeg).toNatClampNeg (ρ 28 0 0 (ρ 43 0 0 x1.toNatClampNeg).toNatClampNeg)) 28 0 0 (ρ 43 0 0 x1.toNatClampNeg).toNatClampNeg (0 : Int32))) kh_kd15 rfl) rfl rfl hl.1.1 rfl (lv_room (kh_sum kh_an (Nat.le_of_ble_eq_true rfl))) dX5_begins_57 ⟨Nat.le_of_ble_eq_true rfl, Nat.le_of_ble_eq_true rfl⟩) hS (kh_mp h_12) (fun H locs hw hS => ?_)
        refine kh_istore_n (lv' := [(3, .int r_12), (2, .int (ρ 43 0 0 x1.toNatClampNeg)), (0, .ref (ad 15 0)), (1, .int x1)]) C.1 C.2.1 dX5_begins_60 rfl hl (by decide) rfl (fun ls hl => ?_)
        exact wL61 (kh_up (kh_up ρ 27 0 0 (ρ 43 0 0 x1.toNatClampNeg).toNatClampNeg (ρ 28 0 0 (ρ 43 0 0 x1.toNatClampNeg).toNatClampNeg)) 28 0 0 (ρ 43 0 0 x1.toNatClampNeg).toNatClampNeg (0 : Int32)) x1 (ρ 43 0 0 x1.toNatClampNeg) r_12 _ _ _ hF hw hS (kh_sub hl [2, 3, 1, 0] rfl)

def f_X5_reset_L57 (ρ_57 : kh_S) (x1_57 : Int32) (x2_57 : Int32) (x3_57 : Int32) (t1_57 : Int32) : Option (kh_S) := kh_bd2 (f_X5_refused ρ_57 t1_57) (fun r_1 ρ_1 => if r_1 = 0 then kh_gd (kh_in x1_57 4) (kh_gd (kh_in x2_57 3) (kh_gd (kh_b x3_57) (kh_bd (f_X5_begins (kh_up (kh_up (kh_up (kh_up ρ_1 26 0 0 x1_57.toNatClampNeg (3 : Int32)) 28 0 0 x1_57.toNatClampNeg (0 : Int32)) 43 0 0 x2_57.toNatClampNeg x1_57) 46 0 0 x2_57.toNatClampNeg x3_57) x2_57) (fun ρ_6 => some ρ_6)))) else some ρ_1)
def f_X5_reset_L52 (ρ_52 : kh_S) (x1_52 : Int32) (x2_52 : Int32) (x3_52 : Int32) : Option (kh_S) := f_X5_reset_L57 ρ_52 x1_52 x2_52 x3_52 (2 : Int32)
def f_X5_reset_L20 (ρ_20 : kh_S) (x1_20 : Int32) (x2_20 : Int32) (x3_20 : Int32) (t0_20 : Int32) : Option (kh_S) := if t0_20 = 0 then f_X5_reset_L57 ρ_20 x1_20 x2_20 x3_20 (1 : Int32) else kh_gd (kh_in x1_20 4) (if (ρ_20 26 0 0 x1_20.toNatClampNeg) = (2 : Int32) then kh_gd (kh_in x2_20 3) (if (ρ_20 43 0 0 x2_20.toNatClampNeg) = (-1 : Int32) then f_X5_reset_L57 ρ_20 x1_20 x2_20 x3_20 (0 : Int32) else f_X5_reset_L52 ρ_20 x1_20 x2_20 x3_20) else f_X5_reset_L52 ρ_20 x1_20 x2_20 x3_20)
def f_X5_reset_L19 (ρ_19 : kh_S) (x1_19 : Int32) (x2_19 : Int32) (x3_19 : Int32) : Option (kh_S) := f_X5_reset_L20 ρ_19 x1_19 x2_19 x3_19 (0 : Int32)
def f_X5_reset (ρ : kh_S) (x1 : Int32) (x2 : Int32) (x3 : Int32) : Option (kh_S) := kh_bd (f_X5_isRoom ρ x1) (fun r_12 => if r_12 = 0 then f_X5_reset_L19 ρ x1 x2 x3 else kh_bd (f_X5_isCrew ρ x2) (fun r_14 => if r_14 = 0 then f_X5_reset_L19 ρ x1 x2 x3 else f_X5_reset_L20 ρ x1 x2 x3 (1 : Int32)))
set_option maxHeartbeats 4000000 in
set_option maxRecDepth 100000 in
theorem c_X5_reset (l : Launch) (D : va_G) (ca : Nat → ClassId) (A : Nat → Prop) (ad : Nat → Nat → Nat) (ρ : kh_S) (x1 : Int32) (x2 : Int32) (x3 : Int32) {q0 : kh_S} (hF0 : f_X5_reset ρ x1 x2 x3 = some q0) : Met l yX5_reset wsX5_reset ({ frames := 2, cells := 0, slots := 0, locals := 50 } : Room) (va_Pc [.ref (ad 15 0), .int x1, .int x2, .int x3] (kh_I D ca A ad ρ)) (kh_Qv D ca A ad (f_X5_reset ρ x1 x2 x3)) 0 0 A := by
  refine Met.ofW (cc := cX5_reset) (maxL := 5) (ret := none) (by decide) rfl ?_
  intro p e s m args below meth c s₁ B hml hv
  obtain ⟨rfl, hK, hw, hA⟩ := hv
  have C : kh_C p s m ([.ref (ad 15 0), .int x1, .int x2, .int x3]).toArray c cX5_reset 5 RX5 wsX5_reset D ca A := ⟨B.exec, B.bytes, hml, findClass_of_methodNamed B.named, atoms_spec (ws := wsX5_reset) B.pre, hK, hA⟩
  have hr := B.returns
  have hlocks := B.notSynchronized
  have hS : va_S A s.heap s.heap [] := va_S.rf
  have hl := kh_entry ([.ref (ad 15 0), .int x1, .int x2, .int x3]) (n := 5) (kh_ac rfl (kh_ac rfl (kh_ac rfl (kh_ac rfl kh_an)))) (Nat.le_of_ble_eq_true rfl)
  rw [lg_entry_eq]
  generalize (lg_sl ([.ref (ad 15 0), .int x1, .int x2, .int x3]) ++ List.replicate (5 - (lg_sl ([.ref (ad 15 0), .int x1, .int x2, .int x3])).length) Slot.unset).toArray = ls at hl ⊢
  have hl : kh_lv ls 5 [(0, .ref (ad 15 0)), (1, .int x1), (2, .int x2), (3, .int x3)] := hl
  have k_16 := C.2.2.2.2.1 (.fieldLink RX5 16 "KeylessHallModel" "state" "[I") (by decide +kernel)
  have k_22 := C.2.2.2.2.1 (.fieldLink RX5 22 "KeylessHallModel" "forgotten" "[I") (by decide +kernel)
  have k_64 := C.2.2.2.2.1 (.fieldLink RX5 64 "KeylessHallModel" "crewRoom" "[I") (by decide +kernel)
  have k_73 := C.2.2.2.2.1 (.fieldLink RX5 73 "KeylessHallModel" "crewChecks" "[Z") (by decide +kernel)
  have hF := hF0
  unfold f_X5_reset at hF
  have wL57 : ∀ (ρ_57 : kh_S) (x1_57 : Int32) (x2_57 : Int32) (x3_57 : Int32) (t1_57 : Int32) (H : Heap) (locs : List Loc) (ls : Array Slot), f_X5_reset_L57 ρ_57 x1_57 x2_57 x3_57 t1_57 = some q0 → kh_w D ca A ad ρ_57 H → va_S A s.heap H locs → kh_lv ls 5 [(0, .ref (ad 15 0)), (1, .int x1_57), (2, .int x2_57), (3, .int x3_57)] → W p l e (headSpec wsX5_reset ({ frames := 2, cells := 0, slots := 0, locals := 50 } : Room)).room s m ([.ref (ad 15 0), .int x1, .int x2, .int x3]).toArray below meth c H locs 0 0 (MQ below (kh_Qv D ca A ad (f_X5_reset ρ x1 x2 x3)) ([.ref (ad 15 0), .int x1, .int x2, .int x3]).toArray s 0 0 A) (F0 m 57 ls [.int t1_57, .ref (ad 15 0)]) := by
    intro ρ_57 x1_57 x2_57 x3_57 t1_57 H locs ls hF hw hS hl
    unfold f_X5_reset_L57 at hF
    obtain ⟨r_1, ρ_1, h_1, hF⟩ := kh_bd2_ok hF
    refine kh_calli (va_runV (As := [.int t1_57]) (rest := []) ⟨C.1, C.2.1, C.2.2.1, C.2.2.2.1, C.2.2.2.2.1⟩ (c_X5_refused l D ca A ad ρ_57 t1_57 h_1) (cwV 1 C.2.2.2.2.1 gX5_reset_X5_refused rfl rfl rfl (by decide +kernel) ⟨Nat.le_of_ble_eq_true rfl, Nat.le_of_ble_eq_true rfl⟩) (kh_preV C hw hS 15 (kh_z15 ρ_57) kh_kd15 rfl) rfl rfl hl.1.1 rfl (lv_room (kh_sum kh_an (Nat.le_of_ble_eq_true rfl))) dX5_reset_57 ⟨Nat.le_of_ble_eq_true rfl, Nat.le_of_ble_eq_true rfl⟩) hS h_1 (fun H locs hw hS => ?_)
    refine lv_if_eq (tgt := 64) C.1 C.2.1 dX5_reset_60 (by decide) (fun c_2 => ?_) (fun c_2 => ?_)
    · have hF := kh_ift hF c_2
      refine lv_aload_n C.1 C.2.1 dX5_reset_64 rfl (kh_at hl 0 rfl) ?_
      refine kh_get C hw 15 6 rfl (kh_z15 ρ_1) kh_kd15 (Cn := RX5) (T := TX5) (N := 33) rfl (Nat.le_of_ble_eq_true rfl) k_16 (kf_15_6 ad ρ_1 0) dX5_reset_65 ?_
      refine lv_iload_n C.1 C.2.1 dX5_reset_68 rfl (kh_at hl 1 rfl) ?_
      refine lv_iconst (v := (3 : Int32)) C.1 C.2.1 dX5_reset_69 (by decide) ?_
      obtain ⟨g_3, hF⟩ := kh_gd_ok hF
      refine kh_iast C hw hS 26 rfl (kh_z26 ρ_1) (by decide) kh_kd26 g_3 dX5_reset_70 (fun H locs hw hS => ?_)
      refine lv_aload_n C.1 C.2.1 dX5_reset_71 rfl (kh_at hl 0 rfl) ?_
      refine kh_get C hw 15 8 rfl (kh_z15 (kh_up ρ_1 26 0 0 x1_57.toNatClampNeg (3 : Int32))) kh_kd15 (Cn := RX5) (T := TX5) (N := 33) rfl (Nat.le_of_ble_eq_true rfl) k_22 (kf_15_8 ad (kh_up ρ_1 26 0 0 x1_57.toNatClampNeg (3 : Int32)) 0) dX5_reset_72 ?_
      refine lv_iload_n C.1 C.2.1 dX5_reset_75 rfl (kh_at hl 1 rfl) ?_
      refine lv_iconst (v := (0 : Int32)) C.1 C.2.1 dX5_reset_76 (by decide) ?_
      refine kh_iast C hw hS 28 rfl (kh_z28 (kh_up ρ_1 26 0 0 x1_57.toNatClampNeg (3 : Int32))) (by decide) kh_kd28 g_3 dX5_reset_77 (fun H locs hw hS => ?_)
      refine lv_aload_n C.1 C.2.1 dX5_reset_78 rfl (kh_at hl 0 rfl) ?_
      refine kh_get C hw 15 23 rfl (kh_z15 (kh_up (kh_up ρ_1 26 0 0 x1_57.toNatClampNeg (3 : Int32)) 28 0 0 x1_57.toNatClampNeg (0 : Int32))) kh_kd15 (Cn := RX5) (T := TX5) (N := 33) rfl (Nat.le_of_ble_eq_true rfl) k_64 (kf_15_23 ad (kh_up (kh_up ρ_1 26 0 0 x1_57.toNatClampNeg (3 : Int32)) 28 0 0 x1_57.toNatClampNeg (0 : Int32)) 0) dX5_reset_79 ?_
      refine lv_iload_n C.1 C.2.1 dX5_reset_82 rfl (kh_at hl 2 rfl) ?_
      refine lv_iload_n C.1 C.2.1 dX5_reset_83 rfl (kh_at hl 1 rfl) ?_
      obtain ⟨g_4, hF⟩ := kh_gd_ok hF
      refine kh_iast C hw hS 43 rfl (kh_z43 (kh_up (kh_up ρ_1 26 0 0 x1_57.toNatClampNeg (3 : Int32)) 28 0 0 x1_57.toNatClampNeg (0 : Int32))) (by decide) kh_kd43 g_4 dX5_reset_84 (fun H locs hw hS => ?_)
      refine lv_aload_n C.1 C.2.1 dX5_reset_85 rfl (kh_at hl 0 rfl) ?_
      refine kh_get C hw 15 26 rfl (kh_z15 (kh_up (kh_up (kh_up ρ_1 26 0 0 x1_57.toNatClampNeg (3 : Int32)) 28 0 0 x1_57.toNatClampNeg (0 : Int32)) 43 0 0 x2_57.toNatClampNeg x1_57)) kh_kd15 (Cn := RX5) (T := TX5) (N := 33) rfl (Nat.le_of_ble_eq_true rfl) k_73 (kf_15_26 ad (kh_up (kh_up (kh_up ρ_1 26 0 0 x1_57.toNatClampNeg (3 : Int32)) 28 0 0 x1_57.toNatClampNeg (0 : Int32)) 43 0 0 x2_57.toNatClampNeg x1_57) 0) dX5_reset_86 ?_
      refine lv_iload_n C.1 C.2.1 dX5_reset_89 rfl (kh_at hl 2 rfl) ?_
      refine lv_iload_n C.1 C.2.1 dX5_reset_90 rfl (kh_at hl 3 rfl) ?_
      obtain ⟨g_5, hF⟩ := kh_gd_ok hF
      refine kh_zast C hw hS 46 rfl (kh_z46 (kh_up (kh_up (kh_up ρ_1 26 0 0 x1_57.toNatClampNeg (3 : Int32)) 28 0 0 x1_57.toNatClampNeg (0 : Int32)) 43 0 0 x2_57.toNatClampNeg x1_57)) (by decide) kh_kd46 g_4 g_5 dX5_reset_91 (fun H locs hw hS => ?_)
      refine lv_aload_n C.1 C.2.1 dX5_reset_92 rfl (kh_at hl 0 rfl) ?_
      refine lv_iload_n C.1 C.2.1 dX5_reset_93 rfl (kh_at hl 2 rfl) ?_
      obtain ⟨ρ_6, h_6, hF⟩ := kh_bd_ok hF
      refine kh_callv (va_runV (As := [.int x2_57]) (rest := []) ⟨C.1, C.2.1, C.2.2.1, C.2.2.2.1, C.2.2.2.2.1⟩ (c_X5_begins l D ca A ad (kh_up (kh_up (kh_up (kh_up ρ_1 26 0 0 x1_57.toNatClampNeg (3 : Int32)) 28 0 0 x1_57.toNatClampNeg (0 : Int32)) 43 0 0 x2_57.toNatClampNeg x1_57) 46 0 0 x2_57.toNatClampNeg x3_57) x2_57 h_6) (cwV 1 C.2.2.2.2.1 gX5_reset_X5_begins rfl rfl rfl (by decide +kernel) ⟨Nat.le_of_ble_eq_true rfl, Nat.le_of_ble_eq_true rfl⟩) (kh_preV C hw hS 15 (kh_z15 (kh_up (kh_up (kh_up (kh_up ρ_1 26 0 0 x1_57.toNatClampNeg (3 : Int32)) 28 0 0 x1_57.toNatClampNeg (0 : Int32)) 43 0 0 x2_57.toNatClampNeg x1_57) 46 0 0 x2_57.toNatClampNeg x3_57)) kh_kd15 rfl) rfl rfl hl.1.1 rfl (lv_room (kh_sum kh_an (Nat.le_of_ble_eq_true rfl))) dX5_reset_94 ⟨Nat.le_of_ble_eq_true rfl, Nat.le_of_ble_eq_true rfl⟩) hS h_6 (fun H locs hw hS => ?_)
      exact W.vret C.1 C.2.1 hr (fun t ht hW => ⟨⟨ρ_6, rfl, hF0.trans hF.symm, kh_bk ht hw⟩, hS.F ht⟩) hS.2.2 dX5_reset_97
    · have hF := kh_iff hF c_2
      exact W.vret C.1 C.2.1 hr (fun t ht hW => ⟨⟨ρ_1, rfl, hF0.trans hF.symm, kh_bk ht hw⟩, hS.F ht⟩) hS.2.2 dX5_reset_63
  have wL52 : ∀ (ρ_52 : kh_S) (x1_52 : Int32) (x2_52 : Int32) (x3_52 : Int32) (H : Heap) (locs : List Loc) (ls : Array Slot), f_X5_reset_L52 ρ_52 x1_52 x2_52 x3_52 = some q0 → kh_w D ca A ad ρ_52 H → va_S A s.heap H locs → kh_lv ls 5 [(0, .ref (ad 15 0)), (1, .int x1_52), (2, .int x2_52), (3, .int x3_52)] → W p l e (headSpec wsX5_reset ({ frames := 2, cells := 0, slots := 0, locals := 50 } : Room)).room s m ([.ref (ad 15 0), .int x1, .int x2, .int x3]).toArray below meth c H locs 0 0 (MQ below (kh_Qv D ca A ad (f_X5_reset ρ x1 x2 x3)) ([.ref (ad 15 0), .int x1, .int x2, .int x3]).toArray s 0 0 A) (F0 m 52 ls [.ref (ad 15 0)]) := by
    intro ρ_52 x1_52 x2_52 x3_52 H locs ls hF hw hS hl
    unfold f_X5_reset_L52 at hF
    refine lv_iconst (v := (2 : Int32)) C.1 C.2.1 dX5_reset_52 (by decide) ?_
    refine lv_goto (tgt := 57) C.1 C.2.1 dX5_reset_53 (by decide) ?_
    exact wL57 ρ_52 x1_52 x2_52 x3_52 (2 : Int32) _ _ _ hF hw hS (kh_sub hl [0, 1, 2, 3] rfl)
  have wL20 : ∀ (ρ_20 : kh_S) (x1_20 : Int32) (x2_20 : Int32) (x3_20 : Int32) (t0_20 : Int32) (H : Heap) (locs : List Loc) (ls : Array Slot), f_X5_reset_L20 ρ_20 x1_20 x2_20 x3_20 t0_20 = some q0 → kh_w D ca A ad ρ_20 H → va_S A s.heap H locs → kh_lv ls 5 [(0, .ref (ad 15 0)), (1, .int x1_20), (2, .int x2_20), (3, .int x3_20)] → W p l e (headSpec wsX5_reset ({ frames := 2, cells := 0, slots := 0, locals := 50 } : Room)).room s m ([.ref (ad 15 0), .int x1, .int x2, .int x3]).toArray below meth c H locs 0 0 (MQ below (kh_Qv D ca A ad (f_X5_reset ρ x1 x2 x3)) ([.ref (ad 15 0), .int x1, .int x2, .int x3]).toArray s 0 0 A) (F0 m 20 ls [.int t0_20]) := by
    intro ρ_20 x1_20 x2_20 x3_20 t0_20 H locs ls hF hw hS hl
    unfold f_X5_reset_L20 at hF
    refine kh_istore (lv' := [(4, .int t0_20), (0, .ref (ad 15 0)), (1, .int x1_20), (2, .int x2_20), (3, .int x3_20)]) C.1 C.2.1 dX5_reset_20 hl (by decide) rfl (fun ls hl => ?_)
    refine lv_aload_n C.1 C.2.1 dX5_reset_22 rfl (kh_at hl 1 rfl) ?_
    refine lv_iload C.1 C.2.1 dX5_reset_23 (kh_at hl 0 rfl) ?_
    refine lv_if_ne (tgt := 32) C.1 C.2.1 dX5_reset_25 (by decide) (fun c_7 => ?_) (fun c_7 => ?_)
    · have hF := kh_iff hF c_7
      refine lv_aload_n C.1 C.2.1 dX5_reset_32 rfl (kh_at hl 1 rfl) ?_
      refine kh_get C hw 15 6 rfl (kh_z15 ρ_20) kh_kd15 (Cn := RX5) (T := TX5) (N := 33) rfl (Nat.le_of_ble_eq_true rfl) k_16 (kf_15_6 ad ρ_20 0) dX5_reset_33 ?_
      refine lv_iload_n C.1 C.2.1 dX5_reset_36 rfl (kh_at hl 2 rfl) ?_
      obtain ⟨g_8, hF⟩ := kh_gd_ok hF
      refine kh_iald C hw 26 rfl (kh_z26 ρ_20) kh_kd26 g_8 dX5_reset_37 ?_
      refine lv_iconst (v := (2 : Int32)) C.1 C.2.1 dX5_reset_38 (by decide) ?_
      refine lv_icmp_ne (tgt := 52) C.1 C.2.1 dX5_reset_39 (by decide) (fun c_9 => ?_) (fun c_9 => ?_)
      · have hF := kh_iff hF c_9
        exact wL52 ρ_20 x1_20 x2_20 x3_20 _ _ _ hF hw hS (kh_sub hl [1, 2, 3, 4] rfl)
      · have hF := kh_ift hF c_9
        refine lv_aload_n C.1 C.2.1 dX5_reset_42 rfl (kh_at hl 1 rfl) ?_
        refine kh_get C hw 15 23 rfl (kh_z15 ρ_20) kh_kd15 (Cn := RX5) (T := TX5) (N := 33) rfl (Nat.le_of_ble_eq_true rfl) k_64 (kf_15_23 ad ρ_20 0) dX5_reset_43 ?_
        refine lv_iload_n C.1 C.2.1 dX5_reset_46 rfl (kh_at hl 3 rfl) ?_
        obtain ⟨g_10, hF⟩ := kh_gd_ok hF
        refine kh_iald C hw 43 rfl (kh_z43 ρ_20) kh_kd43 g_10 dX5_reset_47 ?_
        refine lv_iconst (v := (-1 : Int32)) C.1 C.2.1 dX5_reset_48 (by decide) ?_
        refine lv_icmp_eq (tgt := 56) C.1 C.2.1 dX5_reset_49 (by decide) (fun c_11 => ?_) (fun c_11 => ?_)
        · have hF := kh_ift hF c_11
          refine lv_iconst (v := (0 : Int32)) C.1 C.2.1 dX5_reset_56 (by decide) ?_
          exact wL57 ρ_20 x1_20 x2_20 x3_20 (0 : Int32) _ _ _ hF hw hS (kh_sub hl [1, 2, 3, 4] rfl)
        · have hF := kh_iff hF c_11
          exact wL52 ρ_20 x1_20 x2_20 x3_20 _ _ _ hF hw hS (kh_sub hl [1, 2, 3, 4] rfl)
    · have hF := kh_ift hF c_7
      refine lv_iconst (v := (1 : Int32)) C.1 C.2.1 dX5_reset_28 (by decide) ?_
      refine lv_goto (tgt := 57) C.1 C.2.1 dX5_reset_29 (by decide) ?_
      exact wL57 ρ_20 x1_20 x2_20 x3_20 (1 : Int32) _ _ _ hF hw hS (kh_sub hl [1, 2, 3, 4] rfl)
  have wL19 : ∀ (ρ_19 : kh_S) (x1_19 : Int32) (x2_19 : Int32) (x3_19 : Int32) (H : Heap) (locs : List Loc) (ls : Array Slot), f_X5_reset_L19 ρ_19 x1_19 x2_19 x3_19 = some q0 → kh_w D ca A ad ρ_19 H → va_S A s.heap H locs → kh_lv ls 5 [(0, .ref (ad 15 0)), (1, .int x1_19), (2, .int x2_19), (3, .int x3_19)] → W p l e (headSpec wsX5_reset ({ frames := 2, cells := 0, slots := 0, locals := 50 } : Room)).room s m ([.ref (ad 15 0), .int x1, .int x2, .int x3]).toArray below meth c H locs 0 0 (MQ below (kh_Qv D ca A ad (f_X5_reset ρ x1 x2 x3)) ([.ref (ad 15 0), .int x1, .int x2, .int x3]).toArray s 0 0 A) (F0 m 19 ls []) := by
    intro ρ_19 x1_19 x2_19 x3_19 H locs ls hF hw hS hl
    unfold f_X5_reset_L19 at hF
    refine lv_iconst (v := (0 : Int32)) C.1 C.2.1 dX5_reset_19 (by decide) ?_
    exact wL20 ρ_19 x1_19 x2_19 x3_19 (0 : Int32) _ _ _ hF hw hS (kh_sub hl [0, 1, 2, 3] rfl)
  refine lv_aload_n C.1 C.2.1 dX5_reset_0 rfl (kh_at hl 0 rfl) ?_
  refine lv_iload_n C.1 C.2.1 dX5_reset_1 rfl (kh_at hl 1 rfl) ?_
  obtain ⟨r_12, h_12, hF⟩ := kh_bd_ok hF
  refine kh_calli (va_runV (As := [.int x1]) (rest := []) ⟨C.1, C.2.1, C.2.2.1, C.2.2.2.1, C.2.2.2.2.1⟩ (c_X5_isRoom l D ca A ad ρ x1 h_12) (cwV 1 C.2.2.2.2.1 gX5_reset_X5_isRoom rfl rfl rfl (by decide +kernel) ⟨Nat.le_of_ble_eq_true rfl, Nat.le_of_ble_eq_true rfl⟩) (kh_preV C hw hS 15 (kh_z15 ρ) kh_kd15 rfl) rfl rfl hl.1.1 rfl (lv_room (kh_sum kh_an (Nat.le_of_ble_eq_true rfl))) dX5_reset_2 ⟨Nat.le_of_ble_eq_true rfl, Nat.le_of_ble_eq_true rfl⟩) hS (kh_mp h_12) (fun H locs hw hS => ?_)
  refine lv_if_eq (tgt := 19) C.1 C.2.1 dX5_reset_5 (by decide) (fun c_13 => ?_) (fun c_13 => ?_)
  · have hF := kh_ift hF c_13
    exact wL19 ρ x1 x2 x3 _ _ _ hF hw hS (kh_sub hl [0, 1, 2, 3] rfl)
  · have hF := kh_iff hF c_13
    refine lv_iload_n C.1 C.2.1 dX5_reset_8 rfl (kh_at hl 2 rfl) ?_
    obtain ⟨r_14, h_14, hF⟩ := kh_bd_ok hF
    refine kh_calli (va_runS (As := [.int x2]) (rest := []) ⟨C.1, C.2.1, C.2.2.1, C.2.2.2.1, C.2.2.2.2.1⟩ (c_X5_isCrew l D ca A ad ρ x2 h_14) (va_cwS 1 C.2.2.2.2.1 gX5_reset_X5_isCrew rfl rfl rfl (by decide +kernel) ⟨Nat.le_of_ble_eq_true rfl, Nat.le_of_ble_eq_true rfl⟩) (kh_preS C hw hS) rfl rfl hl.1.1 rfl (lv_room (kh_sum kh_an (Nat.le_of_ble_eq_true rfl))) dX5_reset_9 ⟨Nat.le_of_ble_eq_true rfl, Nat.le_of_ble_eq_true rfl⟩) hS (kh_mp h_14) (fun H locs hw hS => ?_)
    refine lv_if_eq (tgt := 19) C.1 C.2.1 dX5_reset_12 (by decide) (fun c_15 => ?_) (fun c_15 => ?_)
    · have hF := kh_ift hF c_15
      exact wL19 ρ x1 x2 x3 _ _ _ hF hw hS (kh_sub hl [0, 1, 2, 3] rfl)
    · have hF := kh_iff hF c_15
      refine lv_iconst (v := (1 : Int32)) C.1 C.2.1 dX5_reset_15 (by decide) ?_
      refine lv_goto (tgt := 20) C.1 C.2.1 dX5_reset_16 (by decide) ?_
      exact wL20 ρ x1 x2 x3 (1 : Int32) _ _ _ hF hw hS (kh_sub hl [0, 1, 2, 3] rfl)

def f_X5_forget_L29 (ρ_29 : kh_S) (x1_29 : Int32) (t1_29 : Int32) : Option (Int32 × kh_S) := kh_bd2 (f_X5_refused ρ_29 t1_29) (fun r_1 ρ_1 => if r_1 = 0 then kh_gd (kh_in x1_29 3) (kh_gd (kh_in (ρ_1 43 0 0 x1_29.toNatClampNeg) 4) (kh_bd (f_X5_begins (kh_up (kh_up ρ_1 27 0 0 (ρ_1 43 0 0 x1_29.toNatClampNeg).toNatClampNeg ((ρ_1 27 0 0 (ρ_1 43 0 0 x1_29.toNatClampNeg).toNatClampNeg) &&& (((1 : Int32) <<< ((ρ_1 44 0 0 x1_29.toNatClampNeg) &&& 31)) ^^^ (-1 : Int32)))) 28 0 0 (ρ_1 43 0 0 x1_29.toNatClampNeg).toNatClampNeg (((kh_up ρ_1 27 0 0 (ρ_1 43 0 0 x1_29.toNatClampNeg).toNatClampNeg ((ρ_1 27 0 0 (ρ_1 43 0 0 x1_29.toNatClampNeg).toNatClampNeg) &&& (((1 : Int32) <<< ((ρ_1 44 0 0 x1_29.toNatClampNeg) &&& 31)) ^^^ (-1 : Int32)))) 28 0 0 (ρ_1 43 0 0 x1_29.toNatClampNeg).toNatClampNeg) ||| ((1 : Int32) <<< ((ρ_1 44 0 0 x1_29.toNatClampNeg) &&& 31)))) x1_29) (fun ρ_5 => some (ρ_1 44 0 0 x1_29.toNatClampNeg, ρ_5)))) else some ((0 : Int32), ρ_1))
def f_X5_forget (ρ : kh_S) (x1 : Int32) : Option (Int32 × kh_S) := kh_bd (f_X5_isCrew ρ x1) (fun r_6 => if r_6 = 0 then f_X5_forget_L29 ρ x1 (1 : Int32) else kh_gd (kh_in x1 3) (if (ρ 44 0 0 x1.toNatClampNeg) = (-1 : Int32) then f_X5_forget_L29 ρ x1 (2 : Int32) else f_X5_forget_L29 ρ x1 (0 : Int32)))
set_option maxHeartbeats 4000000 in
set_option maxRecDepth 100000 in
theorem c_X5_forget (l : Launch) (D : va_G) (ca : Nat → ClassId) (A : Nat → Prop) (ad : Nat → Nat → Nat) (ρ : kh_S) (x1 : Int32) {q0 : Int32 × kh_S} (hF0 : f_X5_forget ρ x1 = some q0) : Met l yX5_forget wsX5_forget ({ frames := 2, cells := 0, slots := 0, locals := 50 } : Room) (va_Pc [.ref (ad 15 0), .int x1] (kh_I D ca A ad ρ)) (kh_Qi D ca A ad (f_X5_forget ρ x1)) 0 0 A := by
  refine Met.ofW (cc := cX5_forget) (maxL := 5) (ret := (some .int)) (by decide) rfl ?_
  intro p e s m args below meth c s₁ B hml hv
  obtain ⟨rfl, hK, hw, hA⟩ := hv
  have C : kh_C p s m ([.ref (ad 15 0), .int x1]).toArray c cX5_forget 5 RX5 wsX5_forget D ca A := ⟨B.exec, B.bytes, hml, findClass_of_methodNamed B.named, atoms_spec (ws := wsX5_forget) B.pre, hK, hA⟩
  have hr := B.returns
  have hlocks := B.notSynchronized
  have hS : va_S A s.heap s.heap [] := va_S.rf
  have hl := kh_entry ([.ref (ad 15 0), .int x1]) (n := 5) (kh_ac rfl (kh_ac rfl kh_an)) (Nat.le_of_ble_eq_true rfl)
  rw [lg_entry_eq]
  generalize (lg_sl ([.ref (ad 15 0), .int x1]) ++ List.replicate (5 - (lg_sl ([.ref (ad 15 0), .int x1])).length) Slot.unset).toArray = ls at hl ⊢
  have hl : kh_lv ls 5 [(0, .ref (ad 15 0)), (1, .int x1)] := hl
  have k_67 := C.2.2.2.2.1 (.fieldLink RX5 67 "KeylessHallModel" "crewPuzzle" "[I") (by decide +kernel)
  have k_64 := C.2.2.2.2.1 (.fieldLink RX5 64 "KeylessHallModel" "crewRoom" "[I") (by decide +kernel)
  have k_19 := C.2.2.2.2.1 (.fieldLink RX5 19 "KeylessHallModel" "toReset" "[I") (by decide +kernel)
  have k_22 := C.2.2.2.2.1 (.fieldLink RX5 22 "KeylessHallModel" "forgotten" "[I") (by decide +kernel)
  have hF := hF0
  unfold f_X5_forget at hF
  have wL29 : ∀ (ρ_29 : kh_S) (x1_29 : Int32) (t1_29 : Int32) (H : Heap) (locs : List Loc) (ls : Array Slot), f_X5_forget_L29 ρ_29 x1_29 t1_29 = some q0 → kh_w D ca A ad ρ_29 H → va_S A s.heap H locs → kh_lv ls 5 [(0, .ref (ad 15 0)), (1, .int x1_29)] → W p l e (headSpec wsX5_forget ({ frames := 2, cells := 0, slots := 0, locals := 50 } : Room)).room s m ([.ref (ad 15 0), .int x1]).toArray below meth c H locs 0 0 (MQ below (kh_Qi D ca A ad (f_X5_forget ρ x1)) ([.ref (ad 15 0), .int x1]).toArray s 0 0 A) (F0 m 29 ls [.int t1_29, .ref (ad 15 0)]) := by
    intro ρ_29 x1_29 t1_29 H locs ls hF hw hS hl
    unfold f_X5_forget_L29 at hF
    obtain ⟨r_1, ρ_1, h_1, hF⟩ := kh_bd2_ok hF
    refine kh_calli (va_runV (As := [.int t1_29]) (rest := []) ⟨C.1, C.2.1, C.2.2.1, C.2.2.2.1, C.2.2.2.2.1⟩ (c_X5_refused l D ca A ad ρ_29 t1_29 h_1) (cwV 1 C.2.2.2.2.1 gX5_forget_X5_refused rfl rfl rfl (by decide +kernel) ⟨Nat.le_of_ble_eq_true rfl, Nat.le_of_ble_eq_true rfl⟩) (kh_preV C hw hS 15 (kh_z15 ρ_29) kh_kd15 rfl) rfl rfl hl.1.1 rfl (lv_room (kh_sum kh_an (Nat.le_of_ble_eq_true rfl))) dX5_forget_29 ⟨Nat.le_of_ble_eq_true rfl, Nat.le_of_ble_eq_true rfl⟩) hS h_1 (fun H locs hw hS => ?_)
    refine lv_if_eq (tgt := 37) C.1 C.2.1 dX5_forget_32 (by decide) (fun c_2 => ?_) (fun c_2 => ?_)
    · have hF := kh_ift hF c_2
      refine lv_aload_n C.1 C.2.1 dX5_forget_37 rfl (kh_at hl 0 rfl) ?_
      refine kh_get C hw 15 24 rfl (kh_z15 ρ_1) kh_kd15 (Cn := RX5) (T := TX5) (N := 33) rfl (Nat.le_of_ble_eq_true rfl) k_67 (kf_15_24 ad ρ_1 0) dX5_forget_38 ?_
      refine lv_iload_n C.1 C.2.1 dX5_forget_41 rfl (kh_at hl 1 rfl) ?_
      obtain ⟨g_3, hF⟩ := kh_gd_ok hF
      refine kh_iald C hw 44 rfl (kh_z44 ρ_1) kh_kd44 g_3 dX5_forget_42 ?_
      refine kh_istore_n (lv' := [(3, .int (ρ_1 44 0 0 x1_29.toNatClampNeg)), (0, .ref (ad 15 0)), (1, .int x1_29)]) C.1 C.2.1 dX5_forget_43 rfl hl (by decide) rfl (fun ls hl => ?_)
      refine lv_aload_n C.1 C.2.1 dX5_forget_44 rfl (kh_at hl 1 rfl) ?_
      refine kh_get C hw 15 23 rfl (kh_z15 ρ_1) kh_kd15 (Cn := RX5) (T := TX5) (N := 33) rfl (Nat.le_of_ble_eq_true rfl) k_64 (kf_15_23 ad ρ_1 0) dX5_forget_45 ?_
      refine lv_iload_n C.1 C.2.1 dX5_forget_48 rfl (kh_at hl 2 rfl) ?_
      refine kh_iald C hw 43 rfl (kh_z43 ρ_1) kh_kd43 g_3 dX5_forget_49 ?_
      refine kh_istore (lv' := [(4, .int (ρ_1 43 0 0 x1_29.toNatClampNeg)), (3, .int (ρ_1 44 0 0 x1_29.toNatClampNeg)), (0, .ref (ad 15 0)), (1, .int x1_29)]) C.1 C.2.1 dX5_forget_50 hl (by decide) rfl (fun ls hl => ?_)
      refine lv_aload_n C.1 C.2.1 dX5_forget_52 rfl (kh_at hl 2 rfl) ?_
      refine kh_get C hw 15 7 rfl (kh_z15 ρ_1) kh_kd15 (Cn := RX5) (T := TX5) (N := 33) rfl (Nat.le_of_ble_eq_true rfl) k_19 (kf_15_7 ad ρ_1 0) dX5_forget_53 ?_
      refine lv_iload C.1 C.2.1 dX5_forget_56 (kh_at hl 0 rfl) ?_
      refine lv_dup2_11 C.1 C.2.1 dX5_forget_58 rfl rfl ?_
      obtain ⟨g_4, hF⟩ := kh_gd_ok hF
      refine kh_iald C hw 27 rfl (kh_z27 ρ_1) kh_kd27 g_4 dX5_forget_59 ?_
      refine lv_iconst (v := (1 : Int32)) C.1 C.2.1 dX5_forget_60 (by decide) ?_
      refine lv_iload_n C.1 C.2.1 dX5_forget_61 rfl (kh_at hl 1 rfl) ?_
      refine lv_ishl C.1 C.2.1 dX5_forget_62 ?_
      refine lv_iconst (v := (-1 : Int32)) C.1 C.2.1 dX5_forget_63 (by decide) ?_
      refine lv_ixor C.1 C.2.1 dX5_forget_64 ?_
      refine lv_iand C.1 C.2.1 dX5_forget_65 ?_
      refine kh_iast C hw hS 27 rfl (kh_z27 ρ_1) (by decide) kh_kd27 g_4 dX5_forget_66 (fun H locs hw hS => ?_)
      refine lv_aload_n C.1 C.2.1 dX5_forget_67 rfl (kh_at hl 2 rfl) ?_
      refine kh_get C hw 15 8 rfl (kh_z15 (kh_up ρ_1 27 0 0 (ρ_1 43 0 0 x1_29.toNatClampNeg).toNatClampNeg ((ρ_1 27 0 0 (ρ_1 43 0 0 x1_29.toNatClampNeg).toNatClampNeg) &&& (((1 : Int32) <<< ((ρ_1 44 0 0 x1_29.toNatClampNeg) &&& 31)) ^^^ (-1 : Int32))))) kh_kd15 (Cn := RX5) (T := TX5) (N := 33) rfl (Nat.le_of_ble_eq_true rfl) k_22 (kf_15_8 ad (kh_up ρ_1 27 0 0 (ρ_1 43 0 0 x1_29.toNatClampNeg).toNatClampNeg ((ρ_1 27 0 0 (ρ_1 43 0 0 x1_29.toNatClampNeg).toNatClampNeg) &&& (((1 : Int32) <<< ((ρ_1 44 0 0 x1_29.toNatClampNeg) &&& 31)) ^^^ (-1 : Int32)))) 0) dX5_forget_68 ?_
      refine lv_iload C.1 C.2.1 dX5_forget_71 (kh_at hl 0 rfl) ?_
      refine lv_dup2_11 C.1 C.2.1 dX5_forget_73 rfl rfl ?_
      refine kh_iald C hw 28 rfl (kh_z28 (kh_up ρ_1 27 0 0 (ρ_1 43 0 0 x1_29.toNatClampNeg).toNatClampNeg ((ρ_1 27 0 0 (ρ_1 43 0 0 x1_29.toNatClampNeg).toNatClampNeg) &&& (((1 : Int32) <<< ((ρ_1 44 0 0 x1_29.toNatClampNeg) &&& 31)) ^^^ (-1 : Int32))))) kh_kd28 g_4 dX5_forget_74 ?_
      refine lv_iconst (v := (1 : Int32)) C.1 C.2.1 dX5_forget_75 (by decide) ?_
      refine lv_iload_n C.1 C.2.1 dX5_forget_76 rfl (kh_at hl 1 rfl) ?_
      refine lv_ishl C.1 C.2.1 dX5_forget_77 ?_
      refine lv_ior C.1 C.2.1 dX5_forget_78 ?_
      refine kh_iast C hw hS 28 rfl (kh_z28 (kh_up ρ_1 27 0 0 (ρ_1 43 0 0 x1_29.toNatClampNeg).toNatClampNeg ((ρ_1 27 0 0 (ρ_1 43 0 0 x1_29.toNatClampNeg).toNatClampNeg) &&& (((1 : Int32) <<< ((ρ_1 44 0 0 x1_29.toNatClampNeg) &&& 31)) ^^^ (-1 : Int32))))) (by decide) kh_kd28 g_4 dX5_forget_79 (fun H locs hw hS => ?_)
      refine lv_aload_n C.1 C.2.1 dX5_forget_80 rfl (kh_at hl 2 rfl) ?_
      refine lv_iload_n C.1 C.2.1 dX5_forget_81 rfl (kh_at hl 3 rfl) ?_
      obtain ⟨ρ_5, h_5, hF⟩ := kh_bd_ok hF
      refine kh_callv (va_runV (As := [.int x1_29]) (rest := []) ⟨C.1, C.2.1, C.2.2.1, C.2.2.2.1, C.2.2.2.2.1⟩ (c_X5_begins l D ca A ad (kh_up (kh_up ρ_1 27 0 0 (ρ_1 43 0 0 x1_29.toNatClampNeg).toNatClampNeg ((ρ_1 27 0 0 (ρ_1 43 0 0 x1_29.toNatClampNeg).toNatClampNeg) &&& (((1 : Int32) <<< ((ρ_1 44 0 0 x1_29.toNatClampNeg) &&& 31)) ^^^ (-1 : Int32)))) 28 0 0 (ρ_1 43 0 0 x1_29.toNatClampNeg).toNatClampNeg (((kh_up ρ_1 27 0 0 (ρ_1 43 0 0 x1_29.toNatClampNeg).toNatClampNeg ((ρ_1 27 0 0 (ρ_1 43 0 0 x1_29.toNatClampNeg).toNatClampNeg) &&& (((1 : Int32) <<< ((ρ_1 44 0 0 x1_29.toNatClampNeg) &&& 31)) ^^^ (-1 : Int32)))) 28 0 0 (ρ_1 43 0 0 x1_29.toNatClampNeg).toNatClampNeg) ||| ((1 : Int32) <<< ((ρ_1 44 0 0 x1_29.toNatClampNeg) &&& 31)))) x1_29 h_5) (cwV 1 C.2.2.2.2.1 gX5_forget_X5_begins rfl rfl rfl (by decide +kernel) ⟨Nat.le_of_ble_eq_true rfl, Nat.le_of_ble_eq_true rfl⟩) (kh_preV C hw hS 15 (kh_z15 (kh_up (kh_up ρ_1 27 0 0 (ρ_1 43 0 0 x1_29.toNatClampNeg).toNatClampNeg ((ρ_1 27 0 0 (ρ_1 43 0 0 x1_29.toNatClampNeg).toNatClampNeg) &&& (((1 : Int32) <<< ((ρ_1 44 0 0 x1_29.toNatClampNeg) &&& 31)) ^^^ (-1 : Int32)))) 28 0 0 (ρ_1 43 0 0 x1_29.toNatClampNeg).toNatClampNeg (((kh_up ρ_1 27 0 0 (ρ_1 43 0 0 x1_29.toNatClampNeg).toNatClampNeg ((ρ_1 27 0 0 (ρ_1 43 0 0 x1_29.toNatClampNeg).toNatClampNeg) &&& (((1 : Int32) <<< ((ρ_1 44 0 0 x1_29.toNatClampNeg) &&& 31)) ^^^ (-1 : Int32)))) 28 0 0 (ρ_1 43 0 0 x1_29.toNatClampNeg).toNatClampNeg) ||| ((1 : Int32) <<< ((ρ_1 44 0 0 x1_29.toNatClampNeg) &&& 31))))) kh_kd15 rfl) rfl rfl hl.1.1 rfl (lv_room (kh_sum kh_an (Nat.le_of_ble_eq_true rfl))) dX5_forget_82 ⟨Nat.le_of_ble_eq_true rfl, Nat.le_of_ble_eq_true rfl⟩) hS h_5 (fun H locs hw hS => ?_)
      refine lv_iload_n C.1 C.2.1 dX5_forget_85 rfl (kh_at hl 1 rfl) ?_
      exact W.iret (v := ρ_1 44 0 0 x1_29.toNatClampNeg) C.1 C.2.1 hr (fun t ht hW => ⟨⟨ρ_1 44 0 0 x1_29.toNatClampNeg, ρ_5, rfl, hF0.trans hF.symm, kh_bk ht hw⟩, hS.F ht⟩) hS.2.2 dX5_forget_86
    · have hF := kh_iff hF c_2
      refine lv_iconst (v := (0 : Int32)) C.1 C.2.1 dX5_forget_35 (by decide) ?_
      exact W.iret (v := (0 : Int32)) C.1 C.2.1 hr (fun t ht hW => ⟨⟨(0 : Int32), ρ_1, rfl, hF0.trans hF.symm, kh_bk ht hw⟩, hS.F ht⟩) hS.2.2 dX5_forget_36
  refine lv_iload_n C.1 C.2.1 dX5_forget_0 rfl (kh_at hl 1 rfl) ?_
  obtain ⟨r_6, h_6, hF⟩ := kh_bd_ok hF
  refine kh_calli (va_runS (As := [.int x1]) (rest := []) ⟨C.1, C.2.1, C.2.2.1, C.2.2.2.1, C.2.2.2.2.1⟩ (c_X5_isCrew l D ca A ad ρ x1 h_6) (va_cwS 1 C.2.2.2.2.1 gX5_forget_X5_isCrew rfl rfl rfl (by decide +kernel) ⟨Nat.le_of_ble_eq_true rfl, Nat.le_of_ble_eq_true rfl⟩) (kh_preS C hw hS) rfl rfl hl.1.1 rfl (lv_room (kh_sum kh_an (Nat.le_of_ble_eq_true rfl))) dX5_forget_1 ⟨Nat.le_of_ble_eq_true rfl, Nat.le_of_ble_eq_true rfl⟩) hS (kh_mp h_6) (fun H locs hw hS => ?_)
  refine kh_istore_n (lv' := [(2, .int r_6), (0, .ref (ad 15 0)), (1, .int x1)]) C.1 C.2.1 dX5_forget_4 rfl hl (by decide) rfl (fun ls hl => ?_)
  refine lv_aload_n C.1 C.2.1 dX5_forget_5 rfl (kh_at hl 1 rfl) ?_
  refine lv_iload_n C.1 C.2.1 dX5_forget_6 rfl (kh_at hl 0 rfl) ?_
  refine lv_if_ne (tgt := 14) C.1 C.2.1 dX5_forget_7 (by decide) (fun c_7 => ?_) (fun c_7 => ?_)
  · have hF := kh_iff hF c_7
    refine lv_aload_n C.1 C.2.1 dX5_forget_14 rfl (kh_at hl 1 rfl) ?_
    refine kh_get C hw 15 24 rfl (kh_z15 ρ) kh_kd15 (Cn := RX5) (T := TX5) (N := 33) rfl (Nat.le_of_ble_eq_true rfl) k_67 (kf_15_24 ad ρ 0) dX5_forget_15 ?_
    refine lv_iload_n C.1 C.2.1 dX5_forget_18 rfl (kh_at hl 2 rfl) ?_
    obtain ⟨g_8, hF⟩ := kh_gd_ok hF
    refine kh_iald C hw 44 rfl (kh_z44 ρ) kh_kd44 g_8 dX5_forget_19 ?_
    refine lv_iconst (v := (-1 : Int32)) C.1 C.2.1 dX5_forget_20 (by decide) ?_
    refine lv_icmp_ne (tgt := 28) C.1 C.2.1 dX5_forget_21 (by decide) (fun c_9 => ?_) (fun c_9 => ?_)
    · have hF := kh_iff hF c_9
      refine lv_iconst (v := (0 : Int32)) C.1 C.2.1 dX5_forget_28 (by decide) ?_
      exact wL29 ρ x1 (0 : Int32) _ _ _ hF hw hS (kh_sub hl [1, 2] rfl)
    · have hF := kh_ift hF c_9
      refine lv_iconst (v := (2 : Int32)) C.1 C.2.1 dX5_forget_24 (by decide) ?_
      refine lv_goto (tgt := 29) C.1 C.2.1 dX5_forget_25 (by decide) ?_
      exact wL29 ρ x1 (2 : Int32) _ _ _ hF hw hS (kh_sub hl [1, 2] rfl)
  · have hF := kh_ift hF c_7
    refine lv_iconst (v := (1 : Int32)) C.1 C.2.1 dX5_forget_10 (by decide) ?_
    refine lv_goto (tgt := 29) C.1 C.2.1 dX5_forget_11 (by decide) ?_
    exact wL29 ρ x1 (1 : Int32) _ _ _ hF hw hS (kh_sub hl [1, 2] rfl)

def f_X5_canBook_L104 (ρ : kh_S) (x4_104 : Int32) : Option (Int32) := kh_gd (kh_b x4_104) (some x4_104)
def f_X5_canBook_L96 (ρ : kh_S) (x1_c15 : Int32) (x2_c15 : Int32) (x3_c15 : Int32) (x5_96 : Int32) (t0_96 : Int32) : Option ((Int32 × Int32) ⊕ (Int32)) := some (.inl (t0_96, x5_96 + (1 : Int32)))
def f_X5_canBook_L95 (ρ : kh_S) (x1_c15 : Int32) (x2_c15 : Int32) (x3_c15 : Int32) (x5_95 : Int32) : Option ((Int32 × Int32) ⊕ (Int32)) := f_X5_canBook_L96 ρ x1_c15 x2_c15 x3_c15 x5_95 (0 : Int32)
def f_X5_canBook_L91 (ρ : kh_S) (x1_c15 : Int32) (x2_c15 : Int32) (x3_c15 : Int32) (x5_91 : Int32) : Option ((Int32 × Int32) ⊕ (Int32)) := f_X5_canBook_L96 ρ x1_c15 x2_c15 x3_c15 x5_91 (1 : Int32)
def f_X5_canBook_L56 (ρ : kh_S) (x1_c15 : Int32) (x2_c15 : Int32) (x3_c15 : Int32) (x4_56 : Int32) (x5_56 : Int32) (t0_56 : Int32) : Option ((Int32 × Int32) ⊕ (Int32)) := if x4_56 = 0 then f_X5_canBook_L95 ρ x1_c15 x2_c15 x3_c15 x5_56 else kh_gd (kh_in x5_56 30) (if (ρ 48 0 0 x5_56.toNatClampNeg) = x1_c15 then if (ρ 50 0 0 x5_56.toNatClampNeg) = (2 : Int32) then f_X5_canBook_L91 ρ x1_c15 x2_c15 x3_c15 x5_56 else if t0_56 < x3_c15 then f_X5_canBook_L95 ρ x1_c15 x2_c15 x3_c15 x5_56 else f_X5_canBook_L91 ρ x1_c15 x2_c15 x3_c15 x5_56 else f_X5_canBook_L91 ρ x1_c15 x2_c15 x3_c15 x5_56)
def f_X5_canBook_B15 (ρ : kh_S) (x1_c15 : Int32) (x2_c15 : Int32) (x3_c15 : Int32) (y4_15 : Int32) (y5_15 : Int32) : Option ((Int32 × Int32) ⊕ (Int32)) := if (ρ 15 27 0 0) ≤ y5_15 then some (.inr y4_15) else kh_gd (kh_in y5_15 30) (if (ρ 49 0 0 y5_15.toNatClampNeg) ≤ x2_c15 then f_X5_canBook_L56 ρ x1_c15 x2_c15 x3_c15 y4_15 y5_15 (x2_c15 - (ρ 49 0 0 y5_15.toNatClampNeg)) else f_X5_canBook_L56 ρ x1_c15 x2_c15 x3_c15 y4_15 y5_15 ((ρ 49 0 0 y5_15.toNatClampNeg) - x2_c15))
def f_X5_canBook_A15 (ρ : kh_S) (x1_c15 : Int32) (x2_c15 : Int32) (x3_c15 : Int32) : (Int32) → Option (Int32) := (fun u : Int32 => f_X5_canBook_L104 ρ u)
def f_X5_canBook (ρ : kh_S) (x1 : Int32) (x2 : Int32) : Option (Int32) := kh_bd (f_X5_gapOf ρ x1) (fun r_10 => kh_bd (kh_lp (fun a : Int32 × Int32 => f_X5_canBook_B15 ρ x1 x2 ((60 : Int32) + r_10) a.1 a.2) 9999 ((1 : Int32), (0 : Int32))) (f_X5_canBook_A15 ρ x1 x2 ((60 : Int32) + r_10)))
set_option maxHeartbeats 4000000 in
set_option maxRecDepth 100000 in
theorem c_X5_canBook (l : Launch) (D : va_G) (ca : Nat → ClassId) (A : Nat → Prop) (ad : Nat → Nat → Nat) (ρ : kh_S) (x1 : Int32) (x2 : Int32) {q0 : Int32} (hF0 : f_X5_canBook ρ x1 x2 = some q0) : Met l yX5_canBook wsX5_canBook ({ frames := 1, cells := 0, slots := 0, locals := 23 } : Room) (va_Pc [.ref (ad 15 0), .int x1, .int x2] (kh_I D ca A ad ρ)) (kh_Qi D ca A ad (kh_pu (f_X5_canBook ρ x1 x2) ρ)) 0 0 A := by
  refine Met.ofW (cc := cX5_canBook) (maxL := 7) (ret := (some .boolean)) (by decide) rfl ?_
  intro p e s m args below meth c s₁ B hml hv
  obtain ⟨rfl, hK, hw, hA⟩ := hv
  have C : kh_C p s m ([.ref (ad 15 0), .int x1, .int x2]).toArray c cX5_canBook 7 RX5 wsX5_canBook D ca A := ⟨B.exec, B.bytes, hml, findClass_of_methodNamed B.named, atoms_spec (ws := wsX5_canBook) B.pre, hK, hA⟩
  have hr := B.returns
  have hlocks := B.notSynchronized
  have hS : va_S A s.heap s.heap [] := va_S.rf
  have hl := kh_entry ([.ref (ad 15 0), .int x1, .int x2]) (n := 7) (kh_ac rfl (kh_ac rfl (kh_ac rfl kh_an))) (Nat.le_of_ble_eq_true rfl)
  rw [lg_entry_eq]
  generalize (lg_sl ([.ref (ad 15 0), .int x1, .int x2]) ++ List.replicate (7 - (lg_sl ([.ref (ad 15 0), .int x1, .int x2])).length) Slot.unset).toArray = ls at hl ⊢
  have hl : kh_lv ls 7 [(0, .ref (ad 15 0)), (1, .int x1), (2, .int x2)] := hl
  have k_77 := C.2.2.2.2.1 (.fieldLink RX5 77 "KeylessHallModel" "bookRoom" "[I") (by decide +kernel)
  have k_83 := C.2.2.2.2.1 (.fieldLink RX5 83 "KeylessHallModel" "bookHow" "[I") (by decide +kernel)
  have k_106 := C.2.2.2.2.1 (.fieldLink RX5 106 "KeylessHallModel" "bookings" "I") (by decide +kernel)
  have k_80 := C.2.2.2.2.1 (.fieldLink RX5 80 "KeylessHallModel" "bookMinute" "[I") (by decide +kernel)
  have hF := hF0
  unfold f_X5_canBook at hF
  have wL104 : ∀ (x4_104 : Int32) (H : Heap) (locs : List Loc) (ls : Array Slot), f_X5_canBook_L104 ρ x4_104 = some q0 → kh_w D ca A ad ρ H → va_S A s.heap H locs → kh_lv ls 7 [(4, .int x4_104)] → W p l e (headSpec wsX5_canBook ({ frames := 1, cells := 0, slots := 0, locals := 23 } : Room)).room s m ([.ref (ad 15 0), .int x1, .int x2]).toArray below meth c H locs 0 0 (MQ below (kh_Qi D ca A ad (kh_pu (f_X5_canBook ρ x1 x2) ρ)) ([.ref (ad 15 0), .int x1, .int x2]).toArray s 0 0 A) (F0 m 104 ls []) := by
    intro x4_104 H locs ls hF hw hS hl
    unfold f_X5_canBook_L104 at hF
    refine lv_iload C.1 C.2.1 dX5_canBook_104 (kh_at hl 0 rfl) ?_
    obtain ⟨g_1, hF⟩ := kh_gd_ok hF
    exact W.zret (v := x4_104) (ty := .boolean) C.1 C.2.1 hr (kh_b_ok g_1).1 (fun t ht hW => ⟨⟨x4_104, ρ, rfl, kh_mp (hF0.trans hF.symm), kh_bk ht hw⟩, hS.F ht⟩) hS.2.2 dX5_canBook_106
  have wB15 : ∀ (x1_c15 : Int32) (x2_c15 : Int32) (x3_c15 : Int32) (b : Int32), f_X5_canBook_A15 ρ x1_c15 x2_c15 x3_c15 b = some q0 → ∀ (n : Nat) (y4_15 : Int32) (y5_15 : Int32) (H : Heap) (locs : List Loc) (ls : Array Slot), kh_lp (fun a : Int32 × Int32 => f_X5_canBook_B15 ρ x1_c15 x2_c15 x3_c15 a.1 a.2) n (y4_15, y5_15) = some b → kh_w D ca A ad ρ H → va_S A s.heap H locs → kh_lv ls 7 [(0, .ref (ad 15 0)), (1, .int x1_c15), (2, .int x2_c15), (3, .int x3_c15), (4, .int y4_15), (5, .int y5_15)] → W p l e (headSpec wsX5_canBook ({ frames := 1, cells := 0, slots := 0, locals := 23 } : Room)).room s m ([.ref (ad 15 0), .int x1, .int x2]).toArray below meth c H locs 0 0 (MQ below (kh_Qi D ca A ad (kh_pu (f_X5_canBook ρ x1 x2) ρ)) ([.ref (ad 15 0), .int x1, .int x2]).toArray s 0 0 A) (F0 m 15 ls []) := by
    intro x1_c15 x2_c15 x3_c15 b hA_15 n
    induction n with
    | zero => intro y4_15 y5_15 H locs ls h9; exact absurd h9 (fun z => nomatch z)
    | succ n ih_15 =>
      intro y4_15 y5_15 H locs ls hb_15 hw hS hl
      obtain ⟨q_15, hF, hb_15⟩ := kh_lp_ok hb_15
      have hF : f_X5_canBook_B15 ρ x1_c15 x2_c15 x3_c15 y4_15 y5_15 = some q_15 := hF
      have wL96 : ∀ (x5_96 : Int32) (t0_96 : Int32) (H : Heap) (locs : List Loc) (ls : Array Slot), f_X5_canBook_L96 ρ x1_c15 x2_c15 x3_c15 x5_96 t0_96 = some q_15 → kh_w D ca A ad ρ H → va_S A s.heap H locs → kh_lv ls 7 [(0, .ref (ad 15 0)), (1, .int x1_c15), (2, .int x2_c15), (3, .int x3_c15), (5, .int x5_96)] → W p l e (headSpec wsX5_canBook ({ frames := 1, cells := 0, slots := 0, locals := 23 } : Room)).room s m ([.ref (ad 15 0), .int x1, .int x2]).toArray below meth c H locs 0 0 (MQ below (kh_Qi D ca A ad (kh_pu (f_X5_canBook ρ x1 x2) ρ)) ([.ref (ad 15 0), .int x1, .int x2]).toArray s 0 0 A) (F0 m 96 ls [.int t0_96]) := by
        intro x5_96 t0_96 H locs ls hF hw hS hl
        unfold f_X5_canBook_L96 at hF
        refine kh_istore (lv' := [(4, .int t0_96), (0, .ref (ad 15 0)), (1, .int x1_c15), (2, .int x2_c15), (3, .int x3_c15), (5, .int x5_96)]) C.1 C.2.1 dX5_canBook_96 hl (by decide) rfl (fun ls hl => ?_)
        refine kh_iinc (v := x5_96 + (1 : Int32)) (lv' := [(5, .int (x5_96 + (1 : Int32))), (4, .int t0_96), (0, .ref (ad 15 0)), (1, .int x1_c15), (2, .int x2_c15), (3, .int x3_c15)]) C.1 C.2.1 dX5_canBook_98 hl (k := 5) rfl (by rfl) (by decide) rfl (fun ls hl => ?_)
        refine lv_goto (tgt := 15) C.1 C.2.1 dX5_canBook_101 (by decide) ?_
        have e9 := Option.some.inj hF
        rcases hb_15 with ⟨a9, h8, h9⟩ | h8
        · have h7 := Sum.inl.inj (e9.trans h8)
          subst h7
          exact ih_15 _ _ _ _ _ h9 hw hS (kh_sub hl [2, 3, 4, 5, 1, 0] rfl)
        · exact absurd (e9.trans h8) (fun z => nomatch z)
      have wL95 : ∀ (x5_95 : Int32) (H : Heap) (locs : List Loc) (ls : Array Slot), f_X5_canBook_L95 ρ x1_c15 x2_c15 x3_c15 x5_95 = some q_15 → kh_w D ca A ad ρ H → va_S A s.heap H locs → kh_lv ls 7 [(0, .ref (ad 15 0)), (1, .int x1_c15), (2, .int x2_c15), (3, .int x3_c15), (5, .int x5_95)] → W p l e (headSpec wsX5_canBook ({ frames := 1, cells := 0, slots := 0, locals := 23 } : Room)).room s m ([.ref (ad 15 0), .int x1, .int x2]).toArray below meth c H locs 0 0 (MQ below (kh_Qi D ca A ad (kh_pu (f_X5_canBook ρ x1 x2) ρ)) ([.ref (ad 15 0), .int x1, .int x2]).toArray s 0 0 A) (F0 m 95 ls []) := by
        intro x5_95 H locs ls hF hw hS hl
        unfold f_X5_canBook_L95 at hF
        refine lv_iconst (v := (0 : Int32)) C.1 C.2.1 dX5_canBook_95 (by decide) ?_
        exact wL96 x5_95 (0 : Int32) _ _ _ hF hw hS (kh_sub hl [0, 1, 2, 3, 4] rfl)
      have wL91 : ∀ (x5_91 : Int32) (H : Heap) (locs : List Loc) (ls : Array Slot), f_X5_canBook_L91 ρ x1_c15 x2_c15 x3_c15 x5_91 = some q_15 → kh_w D ca A ad ρ H → va_S A s.heap H locs → kh_lv ls 7 [(0, .ref (ad 15 0)), (1, .int x1_c15), (2, .int x2_c15), (3, .int x3_c15), (5, .int x5_91)] → W p l e (headSpec wsX5_canBook ({ frames := 1, cells := 0, slots := 0, locals := 23 } : Room)).room s m ([.ref (ad 15 0), .int x1, .int x2]).toArray below meth c H locs 0 0 (MQ below (kh_Qi D ca A ad (kh_pu (f_X5_canBook ρ x1 x2) ρ)) ([.ref (ad 15 0), .int x1, .int x2]).toArray s 0 0 A) (F0 m 91 ls []) := by
        intro x5_91 H locs ls hF hw hS hl
        unfold f_X5_canBook_L91 at hF
        refine lv_iconst (v := (1 : Int32)) C.1 C.2.1 dX5_canBook_91 (by decide) ?_
        refine lv_goto (tgt := 96) C.1 C.2.1 dX5_canBook_92 (by decide) ?_
        exact wL96 x5_91 (1 : Int32) _ _ _ hF hw hS (kh_sub hl [0, 1, 2, 3, 4] rfl)
      have wL56 : ∀ (x4_56 : Int32) (x5_56 : Int32) (t0_56 : Int32) (H : Heap) (locs : List Loc) (ls : Array Slot), f_X5_canBook_L56 ρ x1_c15 x2_c15 x3_c15 x4_56 x5_56 t0_56 = some q_15 → kh_w D ca A ad ρ H → va_S A s.heap H locs → kh_lv ls 7 [(0, .ref (ad 15 0)), (1, .int x1_c15), (2, .int x2_c15), (3, .int x3_c15), (4, .int x4_56), (5, .int x5_56)] → W p l e (headSpec wsX5_canBook ({ frames := 1, cells := 0, slots := 0, locals := 23 } : Room)).room s m ([.ref (ad 15 0), .int x1, .int x2]).toArray below meth c H locs 0 0 (MQ below (kh_Qi D ca A ad (kh_pu (f_X5_canBook ρ x1 x2) ρ)) ([.ref (ad 15 0), .int x1, .int x2]).toArray s 0 0 A) (F0 m 56 ls [.int t0_56]) := by
        intro x4_56 x5_56 t0_56 H locs ls hF hw hS hl
        unfold f_X5_canBook_L56 at hF
        refine kh_istore (lv' := [(6, .int t0_56), (0, .ref (ad 15 0)), (1, .int x1_c15), (2, .int x2_c15), (3, .int x3_c15), (4, .int x4_56), (5, .int x5_56)]) C.1 C.2.1 dX5_canBook_56 hl (by decide) rfl (fun ls hl => ?_)
        refine lv_iload C.1 C.2.1 dX5_canBook_58 (kh_at hl 5 rfl) ?_
        refine lv_if_eq (tgt := 95) C.1 C.2.1 dX5_canBook_60 (by decide) (fun c_2 => ?_) (fun c_2 => ?_)
        · have hF := kh_ift hF c_2
          exact wL95 x5_56 _ _ _ hF hw hS (kh_sub hl [1, 2, 3, 4, 6] rfl)
        · have hF := kh_iff hF c_2
          refine lv_aload_n C.1 C.2.1 dX5_canBook_63 rfl (kh_at hl 1 rfl) ?_
          refine kh_get C hw 15 28 rfl (kh_z15 ρ) kh_kd15 (Cn := RX5) (T := TX5) (N := 33) rfl (Nat.le_of_ble_eq_true rfl) k_77 (kf_15_28 ad ρ 0) dX5_canBook_64 ?_
          refine lv_iload C.1 C.2.1 dX5_canBook_67 (kh_at hl 6 rfl) ?_
          obtain ⟨g_3, hF⟩ := kh_gd_ok hF
          refine kh_iald C hw 48 rfl (kh_z48 ρ) kh_kd48 g_3 dX5_canBook_69 ?_
          refine lv_iload_n C.1 C.2.1 dX5_canBook_70 rfl (kh_at hl 2 rfl) ?_
          refine lv_icmp_ne (tgt := 91) C.1 C.2.1 dX5_canBook_71 (by decide) (fun c_4 => ?_) (fun c_4 => ?_)
          · have hF := kh_iff hF c_4
            exact wL91 x5_56 _ _ _ hF hw hS (kh_sub hl [1, 2, 3, 4, 6] rfl)
          · have hF := kh_ift hF c_4
            refine lv_aload_n C.1 C.2.1 dX5_canBook_74 rfl (kh_at hl 1 rfl) ?_
            refine kh_get C hw 15 30 rfl (kh_z15 ρ) kh_kd15 (Cn := RX5) (T := TX5) (N := 33) rfl (Nat.le_of_ble_eq_true rfl) k_83 (kf_15_30 ad ρ 0) dX5_canBook_75 ?_
            refine lv_iload C.1 C.2.1 dX5_canBook_78 (kh_at hl 6 rfl) ?_
            refine kh_iald C hw 50 rfl (kh_z50 ρ) kh_kd50 g_3 dX5_canBook_80 ?_
            refine lv_iconst (v := (2 : Int32)) C.1 C.2.1 dX5_canBook_81 (by decide) ?_
            refine lv_icmp_eq (tgt := 91) C.1 C.2.1 dX5_canBook_82 (by decide) (fun c_5 => ?_) (fun c_5 => ?_)
            · have hF := kh_ift hF c_5
              exact wL91 x5_56 _ _ _ hF hw hS (kh_sub hl [1, 2, 3, 4, 6] rfl)
            · have hF := kh_iff hF c_5
              refine lv_iload C.1 C.2.1 dX5_canBook_85 (kh_at hl 0 rfl) ?_
              refine lv_iload_n C.1 C.2.1 dX5_canBook_87 rfl (kh_at hl 4 rfl) ?_
              refine lv_icmp_lt (tgt := 95) C.1 C.2.1 dX5_canBook_88 (by decide) (fun c_6 => ?_) (fun c_6 => ?_)
              · have hF := kh_ift hF c_6
                exact wL95 x5_56 _ _ _ hF hw hS (kh_sub hl [1, 2, 3, 4, 6] rfl)
              · have hF := kh_iff hF c_6
                exact wL91 x5_56 _ _ _ hF hw hS (kh_sub hl [1, 2, 3, 4, 6] rfl)
      unfold f_X5_canBook_B15 at hF
      refine lv_iload C.1 C.2.1 dX5_canBook_15 (kh_at hl 5 rfl) ?_
      refine lv_aload_n C.1 C.2.1 dX5_canBook_17 rfl (kh_at hl 0 rfl) ?_
      refine kh_get C hw 15 27 rfl (kh_z15 ρ) kh_kd15 (Cn := RX5) (T := TX5) (N := 33) rfl (Nat.le_of_ble_eq_true rfl) k_106 (kf_15_27 ad ρ 0) dX5_canBook_18 ?_
      refine lv_icmp_ge (tgt := 104) C.1 C.2.1 dX5_canBook_21 (by decide) (fun c_7 => ?_) (fun c_7 => ?_)
      · have hF := kh_ift hF c_7
        have e9 := Option.some.inj hF
        rcases hb_15 with ⟨a9, h8, h9⟩ | h8
        · exact absurd (e9.trans h8) (fun z => nomatch z)
        have h7 := Sum.inr.inj (e9.trans h8)
        have hF := (congrArg (f_X5_canBook_A15 ρ x1_c15 x2_c15 x3_c15) h7).trans hA_15
        exact wL104 y4_15 _ _ _ hF hw hS (kh_sub hl [4] rfl)
      · have hF := kh_iff hF c_7
        refine lv_aload_n C.1 C.2.1 dX5_canBook_24 rfl (kh_at hl 0 rfl) ?_
        refine kh_get C hw 15 29 rfl (kh_z15 ρ) kh_kd15 (Cn := RX5) (T := TX5) (N := 33) rfl (Nat.le_of_ble_eq_true rfl) k_80 (kf_15_29 ad ρ 0) dX5_canBook_25 ?_
        refine lv_iload C.1 C.2.1 dX5_canBook_28 (kh_at hl 5 rfl) ?_
        obtain ⟨g_8, hF⟩ := kh_gd_ok hF
        refine kh_iald C hw 49 rfl (kh_z49 ρ) kh_kd49 g_8 dX5_canBook_30 ?_
        refine lv_iload_n C.1 C.2.1 dX5_canBook_31 rfl (kh_at hl 2 rfl) ?_
        refine lv_icmp_le (tgt := 47) C.1 C.2.1 dX5_canBook_32 (by decide) (fun c_9 => ?_) (fun c_9 => ?_)
        · have hF := kh_ift hF c_9
          refine lv_iload_n C.1 C.2.1 dX5_canBook_47 rfl (kh_at hl 2 rfl) ?_
          refine lv_aload_n C.1 C.2.1 dX5_canBook_48 rfl (kh_at hl 0 rfl) ?_
          refine kh_get C hw 15 29 rfl (kh_z15 ρ) kh_kd15 (Cn := RX5) (T := TX5) (N := 33) rfl (Nat.le_of_ble_eq_true rfl) k_80 (kf_15_29 ad ρ 0) dX5_canBook_49 ?_
          refine lv_iload C.1 C.2.1 dX5_canBook_52 (kh_at hl 5 rfl) ?_
          refine kh_iald C hw 49 rfl (kh_z49 ρ) kh_kd49 g_8 dX5_canBook_54 ?_
          refine lv_isub C.1 C.2.1 dX5_canBook_55 ?_
          exact wL56 y4_15 y5_15 (x2_c15 - (ρ 49 0 0 y5_15.toNatClampNeg)) _ _ _ hF hw hS (kh_sub hl [0, 1, 2, 3, 4, 5] rfl)
        · have hF := kh_iff hF c_9
          refine lv_aload_n C.1 C.2.1 dX5_canBook_35 rfl (kh_at hl 0 rfl) ?_
          refine kh_get C hw 15 29 rfl (kh_z15 ρ) kh_kd15 (Cn := RX5) (T := TX5) (N := 33) rfl (Nat.le_of_ble_eq_true rfl) k_80 (kf_15_29 ad ρ 0) dX5_canBook_36 ?_
          refine lv_iload C.1 C.2.1 dX5_canBook_39 (kh_at hl 5 rfl) ?_
          refine kh_iald C hw 49 rfl (kh_z49 ρ) kh_kd49 g_8 dX5_canBook_41 ?_
          refine lv_iload_n C.1 C.2.1 dX5_canBook_42 rfl (kh_at hl 2 rfl) ?_
          refine lv_isub C.1 C.2.1 dX5_canBook_43 ?_
          refine lv_goto (tgt := 56) C.1 C.2.1 dX5_canBook_44 (by decide) ?_
          exact wL56 y4_15 y5_15 ((ρ 49 0 0 y5_15.toNatClampNeg) - x2_c15) _ _ _ hF hw hS (kh_sub hl [0, 1, 2, 3, 4, 5] rfl)
  refine lv_bipush (v := (60 : Int32)) C.1 C.2.1 dX5_canBook_0 (by decide) ?_
  refine lv_aload_n C.1 C.2.1 dX5_canBook_2 rfl (kh_at hl 0 rfl) ?_
  refine lv_iload_n C.1 C.2.1 dX5_canBook_3 rfl (kh_at hl 1 rfl) ?_
  obtain ⟨r_10, h_10, hF⟩ := kh_bd_ok hF
  refine kh_calli (va_runV (As := [.int x1]) (rest := [.int (60 : Int32)]) ⟨C.1, C.2.1, C.2.2.1, C.2.2.2.1, C.2.2.2.2.1⟩ (c_X5_gapOf l D ca A ad ρ x1 h_10) (cwV 1 C.2.2.2.2.1 gX5_canBook_X5_gapOf rfl rfl rfl (by decide +kernel) ⟨Nat.le_of_ble_eq_true rfl, Nat.le_of_ble_eq_true rfl⟩) (kh_preV C hw hS 15 (kh_z15 ρ) kh_kd15 rfl) rfl rfl hl.1.1 rfl (lv_room (kh_sum (kh_ac rfl kh_an) (Nat.le_of_ble_eq_true rfl))) dX5_canBook_4 ⟨Nat.le_of_ble_eq_true rfl, Nat.le_of_ble_eq_true rfl⟩) hS (kh_mp h_10) (fun H locs hw hS => ?_)
  refine lv_iadd C.1 C.2.1 dX5_canBook_7 ?_
  refine kh_istore_n (lv' := [(3, .int ((60 : Int32) + r_10)), (0, .ref (ad 15 0)), (1, .int x1), (2, .int x2)]) C.1 C.2.1 dX5_canBook_8 rfl hl (by decide) rfl (fun ls hl => ?_)
  refine lv_iconst (v := (1 : Int32)) C.1 C.2.1 dX5_canBook_9 (by decide) ?_
  refine kh_istore (lv' := [(4, .int (1 : Int32)), (3, .int ((60 : Int32) + r_10)), (0, .ref (ad 15 0)), (1, .int x1), (2, .int x2)]) C.1 C.2.1 dX5_canBook_10 hl (by decide) rfl (fun ls hl => ?_)
  refine lv_iconst (v := (0 : Int32)) C.1 C.2.1 dX5_canBook_12 (by decide) ?_
  refine kh_istore (lv' := [(5, .int (0 : Int32)), (4, .int (1 : Int32)), (3, .int ((60 : Int32) + r_10)), (0, .ref (ad 15 0)), (1, .int x1), (2, .int x2)]) C.1 C.2.1 dX5_canBook_13 hl (by decide) rfl (fun ls hl => ?_)
  obtain ⟨b_15, hb_15, hF⟩ := kh_bd_ok hF
  exact wB15 x1 x2 ((60 : Int32) + r_10) b_15 hF _ (1 : Int32) (0 : Int32) _ _ _ hb_15 hw hS (kh_sub hl [3, 4, 5, 2, 1, 0] rfl)

def f_X5_book_L56 (ρ_56 : kh_S) (x1_56 : Int32) (x2_56 : Int32) (t1_56 : Int32) : Option (Int32 × kh_S) := kh_bd2 (f_X5_refused ρ_56 t1_56) (fun r_1 ρ_1 => if r_1 = 0 then kh_gd (kh_in (ρ_1 15 27 0 0) 30) (kh_gd (kh_in ((kh_up ρ_1 48 0 0 (ρ_1 15 27 0 0).toNatClampNeg x1_56) 15 27 0 0) 30) (kh_gd (kh_in ((kh_up (kh_up ρ_1 48 0 0 (ρ_1 15 27 0 0).toNatClampNeg x1_56) 49 0 0 ((kh_up ρ_1 48 0 0 (ρ_1 15 27 0 0).toNatClampNeg x1_56) 15 27 0 0).toNatClampNeg x2_56) 15 27 0 0) 30) (kh_gd (kh_in ((kh_up (kh_up (kh_up ρ_1 48 0 0 (ρ_1 15 27 0 0).toNatClampNeg x1_56) 49 0 0 ((kh_up ρ_1 48 0 0 (ρ_1 15 27 0 0).toNatClampNeg x1_56) 15 27 0 0).toNatClampNeg x2_56) 50 0 0 ((kh_up (kh_up ρ_1 48 0 0 (ρ_1 15 27 0 0).toNatClampNeg x1_56) 49 0 0 ((kh_up ρ_1 48 0 0 (ρ_1 15 27 0 0).toNatClampNeg x1_56) 15 27 0 0).toNatClampNeg x2_56) 15 27 0 0).toNatClampNeg (0 : Int32)) 15 27 0 0) 30) (some (((kh_up (kh_up (kh_up (kh_up (kh_up ρ_1 48 0 0 (ρ_1 15 27 0 0).toNatClampNeg x1_56) 49 0 0 ((kh_up ρ_1 48 0 0 (ρ_1 15 27 0 0).toNatClampNeg x1_56) 15 27 0 0).toNatClampNeg x2_56) 50 0 0 ((kh_up (kh_up ρ_1 48 0 0 (ρ_1 15 27 0 0).toNatClampNeg x1_56) 49 0 0 ((kh_up ρ_1 48 0 0 (ρ_1 15 27 0 0).toNatClampNeg x1_56) 15 27 0 0).toNatClampNeg x2_56) 15 27 0 0).toNatClampNeg (0 : Int32)) 51 0 0 ((kh_up (kh_up (kh_up ρ_1 48 0 0 (ρ_1 15 27 0 0).toNatClampNeg x1_56) 49 0 0 ((kh_up ρ_1 48 0 0 (ρ_1 15 27 0 0).toNatClampNeg x1_56) 15 27 0 0).toNatClampNeg x2_56) 50 0 0 ((kh_up (kh_up ρ_1 48 0 0 (ρ_1 15 27 0 0).toNatClampNeg x1_56) 49 0 0 ((kh_up ρ_1 48 0 0 (ρ_1 15 27 0 0).toNatClampNeg x1_56) 15 27 0 0).toNatClampNeg x2_56) 15 27 0 0).toNatClampNeg (0 : Int32)) 15 27 0 0).toNatClampNeg (-1 : Int32)) 15 27 0 0 (((kh_up (kh_up (kh_up (kh_up ρ_1 48 0 0 (ρ_1 15 27 0 0).toNatClampNeg x1_56) 49 0 0 ((kh_up ρ_1 48 0 0 (ρ_1 15 27 0 0).toNatClampNeg x1_56) 15 27 0 0).toNatClampNeg x2_56) 50 0 0 ((kh_up (kh_up ρ_1 48 0 0 (ρ_1 15 27 0 0).toNatClampNeg x1_56) 49 0 0 ((kh_up ρ_1 48 0 0 (ρ_1 15 27 0 0).toNatClampNeg x1_56) 15 27 0 0).toNatClampNeg x2_56) 15 27 0 0).toNatClampNeg (0 : Int32)) 51 0 0 ((kh_up (kh_up (kh_up ρ_1 48 0 0 (ρ_1 15 27 0 0).toNatClampNeg x1_56) 49 0 0 ((kh_up ρ_1 48 0 0 (ρ_1 15 27 0 0).toNatClampNeg x1_56) 15 27 0 0).toNatClampNeg x2_56) 50 0 0 ((kh_up (kh_up ρ_1 48 0 0 (ρ_1 15 27 0 0).toNatClampNeg x1_56) 49 0 0 ((kh_up ρ_1 48 0 0 (ρ_1 15 27 0 0).toNatClampNeg x1_56) 15 27 0 0).toNatClampNeg x2_56) 15 27 0 0).toNatClampNeg (0 : Int32)) 15 27 0 0).toNatClampNeg (-1 : Int32)) 15 27 0 0) + (1 : Int32))) 15 27 0 0) - (1 : Int32), kh_up (kh_up (kh_up (kh_up (kh_up ρ_1 48 0 0 (ρ_1 15 27 0 0).toNatClampNeg x1_56) 49 0 0 ((kh_up ρ_1 48 0 0 (ρ_1 15 27 0 0).toNatClampNeg x1_56) 15 27 0 0).toNatClampNeg x2_56) 50 0 0 ((kh_up (kh_up ρ_1 48 0 0 (ρ_1 15 27 0 0).toNatClampNeg x1_56) 49 0 0 ((kh_up ρ_1 48 0 0 (ρ_1 15 27 0 0).toNatClampNeg x1_56) 15 27 0 0).toNatClampNeg x2_56) 15 27 0 0).toNatClampNeg (0 : Int32)) 51 0 0 ((kh_up (kh_up (kh_up ρ_1 48 0 0 (ρ_1 15 27 0 0).toNatClampNeg x1_56) 49 0 0 ((kh_up ρ_1 48 0 0 (ρ_1 15 27 0 0).toNatClampNeg x1_56) 15 27 0 0).toNatClampNeg x2_56) 50 0 0 ((kh_up (kh_up ρ_1 48 0 0 (ρ_1 15 27 0 0).toNatClampNeg x1_56) 49 0 0 ((kh_up ρ_1 48 0 0 (ρ_1 15 27 0 0).toNatClampNeg x1_56) 15 27 0 0).toNatClampNeg x2_56) 15 27 0 0).toNatClampNeg (0 : Int32)) 15 27 0 0).toNatClampNeg (-1 : Int32)) 15 27 0 0 (((kh_up (kh_up (kh_up (kh_up ρ_1 48 0 0 (ρ_1 15 27 0 0).toNatClampNeg x1_56) 49 0 0 ((kh_up ρ_1 48 0 0 (ρ_1 15 27 0 0).toNatClampNeg x1_56) 15 27 0 0).toNatClampNeg x2_56) 50 0 0 ((kh_up (kh_up ρ_1 48 0 0 (ρ_1 15 27 0 0).toNatClampNeg x1_56) 49 0 0 ((kh_up ρ_1 48 0 0 (ρ_1 15 27 0 0).toNatClampNeg x1_56) 15 27 0 0).toNatClampNeg x2_56) 15 27 0 0).toNatClampNeg (0 : Int32)) 51 0 0 ((kh_up (kh_up (kh_up ρ_1 48 0 0 (ρ_1 15 27 0 0).toNatClampNeg x1_56) 49 0 0 ((kh_up ρ_1 48 0 0 (ρ_1 15 27 0 0).toNatClampNeg x1_56) 15 27 0 0).toNatClampNeg x2_56) 50 0 0 ((kh_up (kh_up ρ_1 48 0 0 (ρ_1 15 27 0 0).toNatClampNeg x1_56) 49 0 0 ((kh_up ρ_1 48 0 0 (ρ_1 15 27 0 0).toNatClampNeg x1_56) 15 27 0 0).toNatClampNeg x2_56) 15 27 0 0).toNatClampNeg (0 : Int32)) 15 27 0 0).toNatClampNeg (-1 : Int32)) 15 27 0 0) + (1 : Int32))))))) else some ((0 : Int32), ρ_1))
def f_X5_book_L51 (ρ_51 : kh_S) (x1_51 : Int32) (x2_51 : Int32) : Option (Int32 × kh_S) := f_X5_book_L56 ρ_51 x1_51 x2_51 (3 : Int32)
def f_X5_book (ρ : kh_S) (x1 : Int32) (x2 : Int32) : Option (Int32 × kh_S) := kh_bd (f_X5_isRoom ρ x1) (fun r_7 => if r_7 = 0 then f_X5_book_L56 ρ x1 x2 (1 : Int32) else kh_bd (f_X5_in ρ x2 (ρ 15 1 0 0) (4940 : Int32)) (fun r_9 => if r_9 = 0 then f_X5_book_L56 ρ x1 x2 (2 : Int32) else kh_bd (f_X5_canBook ρ x1 x2) (fun r_11 => if r_11 = 0 then f_X5_book_L51 ρ x1 x2 else if (ρ 15 27 0 0) = (30 : Int32) then f_X5_book_L51 ρ x1 x2 else f_X5_book_L56 ρ x1 x2 (0 : Int32))))
set_option maxHeartbeats 4000000 in
set_option maxRecDepth 100000 in
theorem c_X5_book (l : Launch) (D : va_G) (ca : Nat → ClassId) (A : Nat → Prop) (ad : Nat → Nat → Nat) (ρ : kh_S) (x1 : Int32) (x2 : Int32) {q0 : Int32 × kh_S} (hF0 : f_X5_book ρ x1 x2 = some q0) : Met l yX5_book wsX5_book ({ frames := 2, cells := 0, slots := 0, locals := 49 } : Room) (va_Pc [.ref (ad 15 0), .int x1, .int x2] (kh_I D ca A ad ρ)) (kh_Qi D ca A ad (f_X5_book ρ x1 x2)) 0 0 A := by
  refine Met.ofW (cc := cX5_book) (maxL := 4) (ret := (some .int)) (by decide) rfl ?_
  intro p e s m args below meth c s₁ B hml hv
  obtain ⟨rfl, hK, hw, hA⟩ := hv
  have C : kh_C p s m ([.ref (ad 15 0), .int x1, .int x2]).toArray c cX5_book 4 RX5 wsX5_book D ca A := ⟨B.exec, B.bytes, hml, findClass_of_methodNamed B.named, atoms_spec (ws := wsX5_book) B.pre, hK, hA⟩
  have hr := B.returns
  have hlocks := B.notSynchronized
  have hS : va_S A s.heap s.heap [] := va_S.rf
  have hl := kh_entry ([.ref (ad 15 0), .int x1, .int x2]) (n := 4) (kh_ac rfl (kh_ac rfl (kh_ac rfl kh_an))) (Nat.le_of_ble_eq_true rfl)
  rw [lg_entry_eq]
  generalize (lg_sl ([.ref (ad 15 0), .int x1, .int x2]) ++ List.replicate (4 - (lg_sl ([.ref (ad 15 0), .int x1, .int x2])).length) Slot.unset).toArray = ls at hl ⊢
  have hl : kh_lv ls 4 [(0, .ref (ad 15 0)), (1, .int x1), (2, .int x2)] := hl
  have k_77 := C.2.2.2.2.1 (.fieldLink RX5 77 "KeylessHallModel" "bookRoom" "[I") (by decide +kernel)
  have k_106 := C.2.2.2.2.1 (.fieldLink RX5 106 "KeylessHallModel" "bookings" "I") (by decide +kernel)
  have k_80 := C.2.2.2.2.1 (.fieldLink RX5 80 "KeylessHallModel" "bookMinute" "[I") (by decide +kernel)
  have k_83 := C.2.2.2.2.1 (.fieldLink RX5 83 "KeylessHallModel" "bookHow" "[I") (by decide +kernel)
  have k_86 := C.2.2.2.2.1 (.fieldLink RX5 86 "KeylessHallModel" "bookGroup" "[I") (by decide +kernel)
  have k_141 := C.2.2.2.2.1 (.fieldLink RX5 141 "KeylessHallModel" "minute" "I") (by decide +kernel)
  have hF := hF0
  unfold f_X5_book at hF
  have wL56 : ∀ (ρ_56 : kh_S) (x1_56 : Int32) (x2_56 : Int32) (t1_56 : Int32) (H : Heap) (locs : List Loc) (ls : Array Slot), f_X5_book_L56 ρ_56 x1_56 x2_56 t1_56 = some q0 → kh_w D ca A ad ρ_56 H → va_S A s.heap H locs → kh_lv ls 4 [(0, .ref (ad 15 0)), (1, .int x1_56), (2, .int x2_56)] → W p l e (headSpec wsX5_book ({ frames := 2, cells := 0, slots := 0, locals := 49 } : Room)).room s m ([.ref (ad 15 0), .int x1, .int x2]).toArray below meth c H locs 0 0 (MQ below (kh_Qi D ca A ad (f_X5_book ρ x1 x2)) ([.ref (ad 15 0), .int x1, .int x2]).toArray s 0 0 A) (F0 m 56 ls [.int t1_56, .ref (ad 15 0)]) := by
    intro ρ_56 x1_56 x2_56 t1_56 H locs ls hF hw hS hl
    unfold f_X5_book_L56 at hF
    obtain ⟨r_1, ρ_1, h_1, hF⟩ := kh_bd2_ok hF
    refine kh_calli (va_runV (As := [.int t1_56]) (rest := []) ⟨C.1, C.2.1, C.2.2.1, C.2.2.2.1, C.2.2.2.2.1⟩ (c_X5_refused l D ca A ad ρ_56 t1_56 h_1) (cwV 1 C.2.2.2.2.1 gX5_book_X5_refused rfl rfl rfl (by decide +kernel) ⟨Nat.le_of_ble_eq_true rfl, Nat.le_of_ble_eq_true rfl⟩) (kh_preV C hw hS 15 (kh_z15 ρ_56) kh_kd15 rfl) rfl rfl hl.1.1 rfl (lv_room (kh_sum kh_an (Nat.le_of_ble_eq_true rfl))) dX5_book_56 ⟨Nat.le_of_ble_eq_true rfl, Nat.le_of_ble_eq_true rfl⟩) hS h_1 (fun H locs hw hS => ?_)
    refine lv_if_eq (tgt := 64) C.1 C.2.1 dX5_book_59 (by decide) (fun c_2 => ?_) (fun c_2 => ?_)
    · have hF := kh_ift hF c_2
      refine lv_aload_n C.1 C.2.1 dX5_book_64 rfl (kh_at hl 0 rfl) ?_
      refine kh_get C hw 15 28 rfl (kh_z15 ρ_1) kh_kd15 (Cn := RX5) (T := TX5) (N := 33) rfl (Nat.le_of_ble_eq_true rfl) k_77 (kf_15_28 ad ρ_1 0) dX5_book_65 ?_
      refine lv_aload_n C.1 C.2.1 dX5_book_68 rfl (kh_at hl 0 rfl) ?_
      refine kh_get C hw 15 27 rfl (kh_z15 ρ_1) kh_kd15 (Cn := RX5) (T := TX5) (N := 33) rfl (Nat.le_of_ble_eq_true rfl) k_106 (kf_15_27 ad ρ_1 0) dX5_book_69 ?_
      refine lv_iload_n C.1 C.2.1 dX5_book_72 rfl (kh_at hl 1 rfl) ?_
      obtain ⟨g_3, hF⟩ := kh_gd_ok hF
      refine kh_iast C hw hS 48 rfl (kh_z48 ρ_1) (by decide) kh_kd48 g_3 dX5_book_73 (fun H locs hw hS => ?_)
      refine lv_aload_n C.1 C.2.1 dX5_book_74 rfl (kh_at hl 0 rfl) ?_
      refine kh_get C hw 15 29 rfl (kh_z15 (kh_up ρ_1 48 0 0 (ρ_1 15 27 0 0).toNatClampNeg x1_56)) kh_kd15 (Cn := RX5) (T := TX5) (N := 33) rfl (Nat.le_of_ble_eq_true rfl) k_80 (kf_15_29 ad (kh_up ρ_1 48 0 0 (ρ_1 15 27 0 0).toNatClampNeg x1_56) 0) dX5_book_75 ?_
      refine lv_aload_n C.1 C.2.1 dX5_book_78 rfl (kh_at hl 0 rfl) ?_
      refine kh_get C hw 15 27 rfl (kh_z15 (kh_up ρ_1 48 0 0 (ρ_1 15 27 0 0).toNatClampNeg x1_56)) kh_kd15 (Cn := RX5) (T := TX5) (N := 33) rfl (Nat.le_of_ble_eq_true rfl) k_106 (kf_15_27 ad (kh_up ρ_1 48 0 0 (ρ_1 15 27 0 0).toNatClampNeg x1_56) 0) dX5_book_79 ?_
      refine lv_iload_n C.1 C.2.1 dX5_book_82 rfl (kh_at hl 2 rfl) ?_
      obtain ⟨g_4, hF⟩ := kh_gd_ok hF
      refine kh_iast C hw hS 49 rfl (kh_z49 (kh_up ρ_1 48 0 0 (ρ_1 15 27 0 0).toNatClampNeg x1_56)) (by decide) kh_kd49 g_4 dX5_book_83 (fun H locs hw hS => ?_)
      refine lv_aload_n C.1 C.2.1 dX5_book_84 rfl (kh_at hl 0 rfl) ?_
      refine kh_get C hw 15 30 rfl (kh_z15 (kh_up (kh_up ρ_1 48 0 0 (ρ_1 15 27 0 0).toNatClampNeg x1_56) 49 0 0 ((kh_up ρ_1 48 0 0 (ρ_1 15 27 0 0).toNatClampNeg x1_56) 15 27 0 0).toNatClampNeg x2_56)) kh_kd15 (Cn := RX5) (T := TX5) (N := 33) rfl (Nat.le_of_ble_eq_true rfl) k_83 (kf_15_30 ad (kh_up (kh_up ρ_1 48 0 0 (ρ_1 15 27 0 0).toNatClampNeg x1_56) 49 0 0 ((kh_up ρ_1 48 0 0 (ρ_1 15 27 0 0).toNatClampNeg x1_56) 15 27 0 0).toNatClampNeg x2_56) 0) dX5_book_85 ?_
      refine lv_aload_n C.1 C.2.1 dX5_book_88 rfl (kh_at hl 0 rfl) ?_
      refine kh_get C hw 15 27 rfl (kh_z15 (kh_up (kh_up ρ_1 48 0 0 (ρ_1 15 27 0 0).toNatClampNeg x1_56) 49 0 0 ((kh_up ρ_1 48 0 0 (ρ_1 15 27 0 0).toNatClampNeg x1_56) 15 27 0 0).toNatClampNeg x2_56)) kh_kd15 (Cn := RX5) (T := TX5) (N := 33) rfl (Nat.le_of_ble_eq_true rfl) k_106 (kf_15_27 ad (kh_up (kh_up ρ_1 48 0 0 (ρ_1 15 27 0 0).toNatClampNeg x1_56) 49 0 0 ((kh_up ρ_1 48 0 0 (ρ_1 15 27 0 0).toNatClampNeg x1_56) 15 27 0 0).toNatClampNeg x2_56) 0) dX5_book_89 ?_
      refine lv_iconst (v := (0 : Int32)) C.1 C.2.1 dX5_book_92 (by decide) ?_
      obtain ⟨g_5, hF⟩ := kh_gd_ok hF
      refine kh_iast C hw hS 50 rfl (kh_z50 (kh_up (kh_up ρ_1 48 0 0 (ρ_1 15 27 0 0).toNatClampNeg x1_56) 49 0 0 ((kh_up ρ_1 48 0 0 (ρ_1 15 27 0 0).toNatClampNeg x1_56) 15 27 0 0).toNatClampNeg x2_56)) (by decide) kh_kd50 g_5 dX5_book_93 (fun H locs hw hS => ?_)
      refine lv_aload_n C.1 C.2.1 dX5_book_94 rfl (kh_at hl 0 rfl) ?_
      refine kh_get C hw 15 31 rfl (kh_z15 (kh_up (kh_up (kh_up ρ_1 48 0 0 (ρ_1 15 27 0 0).toNatClampNeg x1_56) 49 0 0 ((kh_up ρ_1 48 0 0 (ρ_1 15 27 0 0).toNatClampNeg x1_56) 15 27 0 0).toNatClampNeg x2_56) 50 0 0 ((kh_up (kh_up ρ_1 48 0 0 (ρ_1 15 27 0 0).toNatClampNeg x1_56) 49 0 0 ((kh_up ρ_1 48 0 0 (ρ_1 15 27 0 0).toNatClampNeg x1_56) 15 27 0 0).toNatClampNeg x2_56) 15 27 0 0).toNatClampNeg (0 : Int32))) kh_kd15 (Cn := RX5) (T := TX5) (N := 33) rfl (Nat.le_of_ble_eq_true rfl) k_86 (kf_15_31 ad (kh_up (kh_up (kh_up ρ_1 48 0 0 (ρ_1 15 27 0 0).toNatClampNeg x1_56) 49 0 0 ((kh_up ρ_1 48 0 0 (ρ_1 15 27 0 0).toNatClampNeg x1_56) 15 27 0 0).toNatClampNeg x2_56) 50 0 0 ((kh_up (kh_up ρ_1 48 0 0 (ρ_1 15 27 0 0).toNatClampNeg x1_56) 49 0 0 ((kh_up ρ_1 48 0 0 (ρ_1 15 27 0 0).toNatClampNeg x1_56) 15 27 0 0).toNatClampNeg x2_56) 15 27 0 0).toNatClampNeg (0 : Int32)) 0) dX5_book_95 ?_
      refine lv_aload_n C.1 C.2.1 dX5_book_98 rfl (kh_at hl 0 rfl) ?_
      refine kh_get C hw 15 27 rfl (kh_z15 (kh_up (kh_up (kh_up ρ_1 48 0 0 (ρ_1 15 27 0 0).toNatClampNeg x1_56) 49 0 0 ((kh_up ρ_1 48 0 0 (ρ_1 15 27 0 0).toNatClampNeg x1_56) 15 27 0 0).toNatClampNeg x2_56) 50 0 0 ((kh_up (kh_up ρ_1 48 0 0 (ρ_1 15 27 0 0).toNatClampNeg x1_56) 49 0 0 ((kh_up ρ_1 48 0 0 (ρ_1 15 27 0 0).toNatClampNeg x1_56) 15 27 0 0).toNatClampNeg x2_56) 15 27 0 0).toNatClampNeg (0 : Int32))) kh_kd15 (Cn := RX5) (T := TX5) (N := 33) rfl (Nat.le_of_ble_eq_true rfl) k_106 (kf_15_27 ad (kh_up (kh_up (kh_up ρ_1 48 0 0 (ρ_1 15 27 0 0).toNatClampNeg x1_56) 49 0 0 ((kh_up ρ_1 48 0 0 (ρ_1 15 27 0 0).toNatClampNeg x1_56) 15 27 0 0).toNatClampNeg x2_56) 50 0 0 ((kh_up (kh_up ρ_1 48 0 0 (ρ_1 15 27 0 0).toNatClampNeg x1_56) 49 0 0 ((kh_up ρ_1 48 0 0 (ρ_1 15 27 0 0).toNatClampNeg x1_56) 15 27 0 0).toNatClampNeg x2_56) 15 27 0 0).toNatClampNeg (0 : Int32)) 0) dX5_book_99 ?_
      refine lv_iconst (v := (-1 : Int32)) C.1 C.2.1 dX5_book_102 (by decide) ?_
      obtain ⟨g_6, hF⟩ := kh_gd_ok hF
      refine kh_iast C hw hS 51 rfl (kh_z51 (kh_up (kh_up (kh_up ρ_1 48 0 0 (ρ_1 15 27 0 0).toNatClampNeg x1_56) 49 0 0 ((kh_up ρ_1 48 0 0 (ρ_1 15 27 0 0).toNatClampNeg x1_56) 15 27 0 0).toNatClampNeg x2_56) 50 0 0 ((kh_up (kh_up ρ_1 48 0 0 (ρ_1 15 27 0 0).toNatClampNeg x1_56) 49 0 0 ((kh_up ρ_1 48 0 0 (ρ_1 15 27 0 0).toNatClampNeg x1_56) 15 27 0 0).toNatClampNeg x2_56) 15 27 0 0).toNatClampNeg (0 : Int32))) (by decide) kh_kd51 g_6 dX5_book_103 (fun H locs hw hS => ?_)
      refine lv_aload_n C.1 C.2.1 dX5_book_104 rfl (kh_at hl 0 rfl) ?_
      refine lv_dup C.1 C.2.1 dX5_book_105 rfl ?_
      refine kh_get C hw 15 27 rfl (kh_z15 (kh_up (kh_up (kh_up (kh_up ρ_1 48 0 0 (ρ_1 15 27 0 0).toNatClampNeg x1_56) 49 0 0 ((kh_up ρ_1 48 0 0 (ρ_1 15 27 0 0).toNatClampNeg x1_56) 15 27 0 0).toNatClampNeg x2_56) 50 0 0 ((kh_up (kh_up ρ_1 48 0 0 (ρ_1 15 27 0 0).toNatClampNeg x1_56) 49 0 0 ((kh_up ρ_1 48 0 0 (ρ_1 15 27 0 0).toNatClampNeg x1_56) 15 27 0 0).toNatClampNeg x2_56) 15 27 0 0).toNatClampNeg (0 : Int32)) 51 0 0 ((kh_up (kh_up (kh_up ρ_1 48 0 0 (ρ_1 15 27 0 0).toNatClampNeg x1_56) 49 0 0 ((kh_up ρ_1 48 0 0 (ρ_1 15 27 0 0).toNatClampNeg x1_56) 15 27 0 0).toNatClampNeg x2_56) 50 0 0 ((kh_up (kh_up ρ_1 48 0 0 (ρ_1 15 27 0 0).toNatClampNeg x1_56) 49 0 0 ((kh_up ρ_1 48 0 0 (ρ_1 15 27 0 0).toNatClampNeg x1_56) 15 27 0 0).toNatClampNeg x2_56) 15 27 0 0).toNatClampNeg (0 : Int32)) 15 27 0 0).toNatClampNeg (-1 : Int32))) kh_kd15 (Cn := RX5) (T := TX5) (N := 33) rfl (Nat.le_of_ble_eq_true rfl) k_106 (kf_15_27 ad (kh_up (kh_up (kh_up (kh_up ρ_1 48 0 0 (ρ_1 15 27 0 0).toNatClampNeg x1_56) 49 0 0 ((kh_up ρ_1 48 0 0 (ρ_1 15 27 0 0).toNatClampNeg x1_56) 15 27 0 0).toNatClampNeg x2_56) 50 0 0 ((kh_up (kh_up ρ_1 48 0 0 (ρ_1 15 27 0 0).toNatClampNeg x1_56) 49 0 0 ((kh_up ρ_1 48 0 0 (ρ_1 15 27 0 0).toNatClampNeg x1_56) 15 27 0 0).toNatClampNeg x2_56) 15 27 0 0).toNatClampNeg (0 : Int32)) 51 0 0 ((kh_up (kh_up (kh_up ρ_1 48 0 0 (ρ_1 15 27 0 0).toNatClampNeg x1_56) 49 0 0 ((kh_up ρ_1 48 0 0 (ρ_1 15 27 0 0).toNatClampNeg x1_56) 15 27 0 0).toNatClampNeg x2_56) 50 0 0 ((kh_up (kh_up ρ_1 48 0 0 (ρ_1 15 27 0 0).toNatClampNeg x1_56) 49 0 0 ((kh_up ρ_1 48 0 0 (ρ_1 15 27 0 0).toNatClampNeg x1_56) 15 27 0 0).toNatClampNeg x2_56) 15 27 0 0).toNatClampNeg (0 : Int32)) 15 27 0 0).toNatClampNeg (-1 : Int32)) 0) dX5_book_106 ?_
      refine lv_iconst (v := (1 : Int32)) C.1 C.2.1 dX5_book_109 (by decide) ?_
      refine lv_iadd C.1 C.2.1 dX5_book_110 ?_
      refine kh_putI C hw hS 15 27 rfl (kh_z15 (kh_up (kh_up (kh_up (kh_up ρ_1 48 0 0 (ρ_1 15 27 0 0).toNatClampNeg x1_56) 49 0 0 ((kh_up ρ_1 48 0 0 (ρ_1 15 27 0 0).toNatClampNeg x1_56) 15 27 0 0).toNatClampNeg x2_56) 50 0 0 ((kh_up (kh_up ρ_1 48 0 0 (ρ_1 15 27 0 0).toNatClampNeg x1_56) 49 0 0 ((kh_up ρ_1 48 0 0 (ρ_1 15 27 0 0).toNatClampNeg x1_56) 15 27 0 0).toNatClampNeg x2_56) 15 27 0 0).toNatClampNeg (0 : Int32)) 51 0 0 ((kh_up (kh_up (kh_up ρ_1 48 0 0 (ρ_1 15 27 0 0).toNatClampNeg x1_56) 49 0 0 ((kh_up ρ_1 48 0 0 (ρ_1 15 27 0 0).toNatClampNeg x1_56) 15 27 0 0).toNatClampNeg x2_56) 50 0 0 ((kh_up (kh_up ρ_1 48 0 0 (ρ_1 15 27 0 0).toNatClampNeg x1_56) 49 0 0 ((kh_up ρ_1 48 0 0 (ρ_1 15 27 0 0).toNatClampNeg x1_56) 15 27 0 0).toNatClampNeg x2_56) 15 27 0 0).toNatClampNeg (0 : Int32)) 15 27 0 0).toNatClampNeg (-1 : Int32))) kh_kd15 (by decide) (Cn := RX5) (T := TX5) (N := 33) rfl (Nat.le_of_ble_eq_true rfl) (kq_15_27) k_106 rfl (by decide +kernel) dX5_book_111 (fun H locs hw hS => ?_)
      refine lv_aload_n C.1 C.2.1 dX5_book_114 rfl (kh_at hl 0 rfl) ?_
      refine kh_get C hw 15 27 rfl (kh_z15 (kh_up (kh_up (kh_up (kh_up (kh_up ρ_1 48 0 0 (ρ_1 15 27 0 0).toNatClampNeg x1_56) 49 0 0 ((kh_up ρ_1 48 0 0 (ρ_1 15 27 0 0).toNatClampNeg x1_56) 15 27 0 0).toNatClampNeg x2_56) 50 0 0 ((kh_up (kh_up ρ_1 48 0 0 (ρ_1 15 27 0 0).toNatClampNeg x1_56) 49 0 0 ((kh_up ρ_1 48 0 0 (ρ_1 15 27 0 0).toNatClampNeg x1_56) 15 27 0 0).toNatClampNeg x2_56) 15 27 0 0).toNatClampNeg (0 : Int32)) 51 0 0 ((kh_up (kh_up (kh_up ρ_1 48 0 0 (ρ_1 15 27 0 0).toNatClampNeg x1_56) 49 0 0 ((kh_up ρ_1 48 0 0 (ρ_1 15 27 0 0).toNatClampNeg x1_56) 15 27 0 0).toNatClampNeg x2_56) 50 0 0 ((kh_up (kh_up ρ_1 48 0 0 (ρ_1 15 27 0 0).toNatClampNeg x1_56) 49 0 0 ((kh_up ρ_1 48 0 0 (ρ_1 15 27 0 0).toNatClampNeg x1_56) 15 27 0 0).toNatClampNeg x2_56) 15 27 0 0).toNatClampNeg (0 : Int32)) 15 27 0 0).toNatClampNeg (-1 : Int32)) 15 27 0 0 (((kh_up (kh_up (kh_up (kh_up ρ_1 48 0 0 (ρ_1 15 27 0 0).toNatClampNeg x1_56) 49 0 0 ((kh_up ρ_1 48 0 0 (ρ_1 15 27 0 0).toNatClampNeg x1_56) 15 27 0 0).toNatClampNeg x2_56) 50 0 0 ((kh_up (kh_up ρ_1 48 0 0 (ρ_1 15 27 0 0).toNatClampNeg x1_56) 49 0 0 ((kh_up ρ_1 48 0 0 (ρ_1 15 27 0 0).toNatClampNeg x1_56) 15 27 0 0).toNatClampNeg x2_56) 15 27 0 0).toNatClampNeg (0 : Int32)) 51 0 0 ((kh_up (kh_up (kh_up ρ_1 48 0 0 (ρ_1 15 27 0 0).toNatClampNeg x1_56) 49 0 0 ((kh_up ρ_1 48 0 0 (ρ_1 15 27 0 0).toNatClampNeg x1_56) 15 27 0 0).toNatClampNeg x2_56) 50 0 0 ((kh_up (kh_up ρ_1 48 0 0 (ρ_1 15 27 0 0).toNatClampNeg x1_56) 49 0 0 ((kh_up ρ_1 48 0 0 (ρ_1 15 27 0 0).toNatClampNeg x1_56) 15 27 0 0).toNatClampNeg x2_56) 15 27 0 0).toNatClampNeg (0 : Int32)) 15 27 0 0).toNatClampNeg (-1 : Int32)) 15 27 0 0) + (1 : Int32)))) kh_kd15 (Cn := RX5) (T := TX5) (N := 33) rfl (Nat.le_of_ble_eq_true rfl) k_106 (kf_15_27 ad (kh_up (kh_up (kh_up (kh_up (kh_up ρ_1 48 0 0 (ρ_1 15 27 0 0).toNatClampNeg x1_56) 49 0 0 ((kh_up ρ_1 48 0 0 (ρ_1 15 27 0 0).toNatClampNeg x1_56) 15 27 0 0).toNatClampNeg x2_56) 50 0 0 ((kh_up (kh_up ρ_1 48 0 0 (ρ_1 15 27 0 0).toNatClampNeg x1_56) 49 0 0 ((kh_up ρ_1 48 0 0 (ρ_1 15 27 0 0).toNatClampNeg x1_56) 15 27 0 0).toNatClampNeg x2_56) 15 27 0 0).toNatClampNeg (0 : Int32)) 51 0 0 ((kh_up (kh_up (kh_up ρ_1 48 0 0 (ρ_1 15 27 0 0).toNatClampNeg x1_56) 49 0 0 ((kh_up ρ_1 48 0 0 (ρ_1 15 27 0 0).toNatClampNeg x1_56) 15 27 0 0).toNatClampNeg x2_56) 50 0 0 ((kh_up (kh_up ρ_1 48 0 0 (ρ_1 15 27 0 0).toNatClampNeg x1_56) 49 0 0 ((kh_up ρ_1 48 0 0 (ρ_1 15 27 0 0).toNatClampNeg x1_56) 15 27 0 0).toNatClampNeg x2_56) 15 27 0 0).toNatClampNeg (0 : Int32)) 15 27 0 0).toNatClampNeg (-1 : Int32)) 15 27 0 0 (((kh_up (kh_up (kh_up (kh_up ρ_1 48 0 0 (ρ_1 15 27 0 0).toNatClampNeg x1_56) 49 0 0 ((kh_up ρ_1 48 0 0 (ρ_1 15 27 0 0).toNatClampNeg x1_56) 15 27 0 0).toNatClampNeg x2_56) 50 0 0 ((kh_up (kh_up ρ_1 48 0 0 (ρ_1 15 27 0 0).toNatClampNeg x1_56) 49 0 0 ((kh_up ρ_1 48 0 0 (ρ_1 15 27 0 0).toNatClampNeg x1_56) 15 27 0 0).toNatClampNeg x2_56) 15 27 0 0).toNatClampNeg (0 : Int32)) 51 0 0 ((kh_up (kh_up (kh_up ρ_1 48 0 0 (ρ_1 15 27 0 0).toNatClampNeg x1_56) 49 0 0 ((kh_up ρ_1 48 0 0 (ρ_1 15 27 0 0).toNatClampNeg x1_56) 15 27 0 0).toNatClampNeg x2_56) 50 0 0 ((kh_up (kh_up ρ_1 48 0 0 (ρ_1 15 27 0 0).toNatClampNeg x1_56) 49 0 0 ((kh_up ρ_1 48 0 0 (ρ_1 15 27 0 0).toNatClampNeg x1_56) 15 27 0 0).toNatClampNeg x2_56) 15 27 0 0).toNatClampNeg (0 : Int32)) 15 27 0 0).toNatClampNeg (-1 : Int32)) 15 27 0 0) + (1 : Int32))) 0) dX5_book_115 ?_
      refine lv_iconst (v := (1 : Int32)) C.1 C.2.1 dX5_book_118 (by decide) ?_
      refine lv_isub C.1 C.2.1 dX5_book_119 ?_
      exact W.iret (v := ((kh_up (kh_up (kh_up (kh_up (kh_up ρ_1 48 0 0 (ρ_1 15 27 0 0).toNatClampNeg x1_56) 49 0 0 ((kh_up ρ_1 48 0 0 (ρ_1 15 27 0 0).toNatClampNeg x1_56) 15 27 0 0).toNatClampNeg x2_56) 50 0 0 ((kh_up (kh_up ρ_1 48 0 0 (ρ_1 15 27 0 0).toNatClampNeg x1_56) 49 0 0 ((kh_up ρ_1 48 0 0 (ρ_1 15 27 0 0).toNatClampNeg x1_56) 15 27 0 0).toNatClampNeg x2_56) 15 27 0 0).toNatClampNeg (0 : Int32)) 51 0 0 ((kh_up (kh_up (kh_up ρ_1 48 0 0 (ρ_1 15 27 0 0).toNatClampNeg x1_56) 49 0 0 ((kh_up ρ_1 48 0 0 (ρ_1 15 27 0 0).toNatClampNeg x1_56) 15 27 0 0).toNatClampNeg x2_56) 50 0 0 ((kh_up (kh_up ρ_1 48 0 0 (ρ_1 15 27 0 0).toNatClampNeg x1_56) 49 0 0 ((kh_up ρ_1 48 0 0 (ρ_1 15 27 0 0).toNatClampNeg x1_56) 15 27 0 0).toNatClampNeg x2_56) 15 27 0 0).toNatClampNeg (0 : Int32)) 15 27 0 0).toNatClampNeg (-1 : Int32)) 15 27 0 0 (((kh_up (kh_up (kh_up (kh_up ρ_1 48 0 0 (ρ_1 15 27 0 0).toNatClampNeg x1_56) 49 0 0 ((kh_up ρ_1 48 0 0 (ρ_1 15 27 0 0).toNatClampNeg x1_56) 15 27 0 0).toNatClampNeg x2_56) 50 0 0 ((kh_up (kh_up ρ_1 48 0 0 (ρ_1 15 27 0 0).toNatClampNeg x1_56) 49 0 0 ((kh_up ρ_1 48 0 0 (ρ_1 15 27 0 0).toNatClampNeg x1_56) 15 27 0 0).toNatClampNeg x2_56) 15 27 0 0).toNatClampNeg (0 : Int32)) 51 0 0 ((kh_up (kh_up (kh_up ρ_1 48 0 0 (ρ_1 15 27 0 0).toNatClampNeg x1_56) 49 0 0 ((kh_up ρ_1 48 0 0 (ρ_1 15 27 0 0).toNatClampNeg x1_56) 15 27 0 0).toNatClampNeg x2_56) 50 0 0 ((kh_up (kh_up ρ_1 48 0 0 (ρ_1 15 27 0 0).toNatClampNeg x1_56) 49 0 0 ((kh_up ρ_1 48 0 0 (ρ_1 15 27 0 0).toNatClampNeg x1_56) 15 27 0 0).toNatClampNeg x2_56) 15 27 0 0).toNatClampNeg (0 : Int32)) 15 27 0 0).toNatClampNeg (-1 : Int32)) 15 27 0 0) + (1 : Int32))) 15 27 0 0) - (1 : Int32)) C.1 C.2.1 hr (fun t ht hW => ⟨⟨((kh_up (kh_up (kh_up (kh_up (kh_up ρ_1 48 0 0 (ρ_1 15 27 0 0).toNatClampNeg x1_56) 49 0 0 ((kh_up ρ_1 48 0 0 (ρ_1 15 27 0 0).toNatClampNeg x1_56) 15 27 0 0).toNatClampNeg x2_56) 50 0 0 ((kh_up (kh_up ρ_1 48 0 0 (ρ_1 15 27 0 0).toNatClampNeg x1_56) 49 0 0 ((kh_up ρ_1 48 0 0 (ρ_1 15 27 0 0).toNatClampNeg x1_56) 15 27 0 0).toNatClampNeg x2_56) 15 27 0 0).toNatClampNeg (0 : Int32)) 51 0 0 ((kh_up (kh_up (kh_up ρ_1 48 0 0 (ρ_1 15 27 0 0).toNatClampNeg x1_56) 49 0 0 ((kh_up ρ_1 48 0 0 (ρ_1 15 27 0 0).toNatClampNeg x1_56) 15 27 0 0).toNatClampNeg x2_56) 50 0 0 ((kh_up (kh_up ρ_1 48 0 0 (ρ_1 15 27 0 0).toNatClampNeg x1_56) 49 0 0 ((kh_up ρ_1 48 0 0 (ρ_1 15 27 0 0).toNatClampNeg x1_56) 15 27 0 0).toNatClampNeg x2_56) 15 27 0 0).toNatClampNeg (0 : Int32)) 15 27 0 0).toNatClampNeg (-1 : Int32)) 15 27 0 0 (((kh_up (kh_up (kh_up (kh_up ρ_1 48 0 0 (ρ_1 15 27 0 0).toNatClampNeg x1_56) 49 0 0 ((kh_up ρ_1 48 0 0 (ρ_1 15 27 0 0).toNatClampNeg x1_56) 15 27 0 0).toNatClampNeg x2_56) 50 0 0 ((kh_up (kh_up ρ_1 48 0 0 (ρ_1 15 27 0 0).toNatClampNeg x1_56) 49 0 0 ((kh_up ρ_1 48 0 0 (ρ_1 15 27 0 0).toNatClampNeg x1_56) 15 27 0 0).toNatClampNeg x2_56) 15 27 0 0).toNatClampNeg (0 : Int32)) 51 0 0 ((kh_up (kh_up (kh_up ρ_1 48 0 0 (ρ_1 15 27 0 0).toNatClampNeg x1_56) 49 0 0 ((kh_up ρ_1 48 0 0 (ρ_1 15 27 0 0).toNatClampNeg x1_56) 15 27 0 0).toNatClampNeg x2_56) 50 0 0 ((kh_up (kh_up ρ_1 48 0 0 (ρ_1 15 27 0 0).toNatClampNeg x1_56) 49 0 0 ((kh_up ρ_1 48 0 0 (ρ_1 15 27 0 0).toNatClampNeg x1_56) 15 27 0 0).toNatClampNeg x2_56) 15 27 0 0).toNatClampNeg (0 : Int32)) 15 27 0 0).toNatClampNeg (-1 : Int32)) 15 27 0 0) + (1 : Int32))) 15 27 0 0) - (1 : Int32), kh_up (kh_up (kh_up (kh_up (kh_up ρ_1 48 0 0 (ρ_1 15 27 0 0).toNatClampNeg x1_56) 49 0 0 ((kh_up ρ_1 48 0 0 (ρ_1 15 27 0 0).toNatClampNeg x1_56) 15 27 0 0).toNatClampNeg x2_56) 50 0 0 ((kh_up (kh_up ρ_1 48 0 0 (ρ_1 15 27 0 0).toNatClampNeg x1_56) 49 0 0 ((kh_up ρ_1 48 0 0 (ρ_1 15 27 0 0).toNatClampNeg x1_56) 15 27 0 0).toNatClampNeg x2_56) 15 27 0 0).toNatClampNeg (0 : Int32)) 51 0 0 ((kh_up (kh_up (kh_up ρ_1 48 0 0 (ρ_1 15 27 0 0).toNatClampNeg x1_56) 49 0 0 ((kh_up ρ_1 48 0 0 (ρ_1 15 27 0 0).toNatClampNeg x1_56) 15 27 0 0).toNatClampNeg x2_56) 50 0 0 ((kh_up (kh_up ρ_1 48 0 0 (ρ_1 15 27 0 0).toNatClampNeg x1_56) 49 0 0 ((kh_up ρ_1 48 0 0 (ρ_1 15 27 0 0).toNatClampNeg x1_56) 15 27 0 0).toNatClampNeg x2_56) 15 27 0 0).toNatClampNeg (0 : Int32)) 15 27 0 0).toNatClampNeg (-1 : Int32)) 15 27 0 0 (((kh_up (kh_up (kh_up (kh_up ρ_1 48 0 0 (ρ_1 15 27 0 0).toNatClampNeg x1_56) 49 0 0 ((kh_up ρ_1 48 0 0 (ρ_1 15 27 0 0).toNatClampNeg x1_56) 15 27 0 0).toNatClampNeg x2_56) 50 0 0 ((kh_up (kh_up ρ_1 48 0 0 (ρ_1 15 27 0 0).toNatClampNeg x1_56) 49 0 0 ((kh_up ρ_1 48 0 0 (ρ_1 15 27 0 0).toNatClampNeg x1_56) 15 27 0 0).toNatClampNeg x2_56) 15 27 0 0).toNatClampNeg (0 : Int32)) 51 0 0 ((kh_up (kh_up (kh_up ρ_1 48 0 0 (ρ_1 15 27 0 0).toNatClampNeg x1_56) 49 0 0 ((kh_up ρ_1 48 0 0 (ρ_1 15 27 0 0).toNatClampNeg x1_56) 15 27 0 0).toNatClampNeg x2_56) 50 0 0 ((kh_up (kh_up ρ_1 48 0 0 (ρ_1 15 27 0 0).toNatClampNeg x1_56) 49 0 0 ((kh_up ρ_1 48 0 0 (ρ_1 15 27 0 0).toNatClampNeg x1_56) 15 27 0 0).toNatClampNeg x2_56) 15 27 0 0).toNatClampNeg (0 : Int32)) 15 27 0 0).toNatClampNeg (-1 : Int32)) 15 27 0 0) + (1 : Int32)), rfl, hF0.trans hF.symm, kh_bk ht hw⟩, hS.F ht⟩) hS.2.2 dX5_book_120
    · have hF := kh_iff hF c_2
      refine lv_iconst (v := (0 : Int32)) C.1 C.2.1 dX5_book_62 (by decide) ?_
      exact W.iret (v := (0 : Int32)) C.1 C.2.1 hr (fun t ht hW => ⟨⟨(0 : Int32), ρ_1, rfl, hF0.trans hF.symm, kh_bk ht hw⟩, hS.F ht⟩) hS.2.2 dX5_book_63
  have wL51 : ∀ (ρ_51 : kh_S) (x1_51 : Int32) (x2_51 : Int32) (H : Heap) (locs : List Loc) (ls : Array Slot), f_X5_book_L51 ρ_51 x1_51 x2_51 = some q0 → kh_w D ca A ad ρ_51 H → va_S A s.heap H locs → kh_lv ls 4 [(0, .ref (ad 15 0)), (1, .int x1_51), (2, .int x2_51)] → W p l e (headSpec wsX5_book ({ frames := 2, cells := 0, slots := 0, locals := 49 } : Room)).room s m ([.ref (ad 15 0), .int x1, .int x2]).toArray below meth c H locs 0 0 (MQ below (kh_Qi D ca A ad (f_X5_book ρ x1 x2)) ([.ref (ad 15 0), .int x1, .int x2]).toArray s 0 0 A) (F0 m 51 ls [.ref (ad 15 0)]) := by
    intro ρ_51 x1_51 x2_51 H locs ls hF hw hS hl
    unfold f_X5_book_L51 at hF
    refine lv_iconst (v := (3 : Int32)) C.1 C.2.1 dX5_book_51 (by decide) ?_
    refine lv_goto (tgt := 56) C.1 C.2.1 dX5_book_52 (by decide) ?_
    exact wL56 ρ_51 x1_51 x2_51 (3 : Int32) _ _ _ hF hw hS (kh_sub hl [0, 1, 2] rfl)
  refine lv_aload_n C.1 C.2.1 dX5_book_0 rfl (kh_at hl 0 rfl) ?_
  refine lv_iload_n C.1 C.2.1 dX5_book_1 rfl (kh_at hl 1 rfl) ?_
  obtain ⟨r_7, h_7, hF⟩ := kh_bd_ok hF
  refine kh_calli (va_runV (As := [.int x1]) (rest := []) ⟨C.1, C.2.1, C.2.2.1, C.2.2.2.1, C.2.2.2.2.1⟩ (c_X5_isRoom l D ca A ad ρ x1 h_7) (cwV 1 C.2.2.2.2.1 gX5_book_X5_isRoom rfl rfl rfl (by decide +kernel) ⟨Nat.le_of_ble_eq_true rfl, Nat.le_of_ble_eq_true rfl⟩) (kh_preV C hw hS 15 (kh_z15 ρ) kh_kd15 rfl) rfl rfl hl.1.1 rfl (lv_room (kh_sum kh_an (Nat.le_of_ble_eq_true rfl))) dX5_book_2 ⟨Nat.le_of_ble_eq_true rfl, Nat.le_of_ble_eq_true rfl⟩) hS (kh_mp h_7) (fun H locs hw hS => ?_)
  refine kh_istore_n (lv' := [(3, .int r_7), (0, .ref (ad 15 0)), (1, .int x1), (2, .int x2)]) C.1 C.2.1 dX5_book_5 rfl hl (by decide) rfl (fun ls hl => ?_)
  refine lv_aload_n C.1 C.2.1 dX5_book_6 rfl (kh_at hl 1 rfl) ?_
  refine lv_iload_n C.1 C.2.1 dX5_book_7 rfl (kh_at hl 0 rfl) ?_
  refine lv_if_ne (tgt := 15) C.1 C.2.1 dX5_book_8 (by decide) (fun c_8 => ?_) (fun c_8 => ?_)
  · have hF := kh_iff hF c_8
    refine lv_iload_n C.1 C.2.1 dX5_book_15 rfl (kh_at hl 3 rfl) ?_
    refine lv_aload_n C.1 C.2.1 dX5_book_16 rfl (kh_at hl 1 rfl) ?_
    refine kh_get C hw 15 1 rfl (kh_z15 ρ) kh_kd15 (Cn := RX5) (T := TX5) (N := 33) rfl (Nat.le_of_ble_eq_true rfl) k_141 (kf_15_1 ad ρ 0) dX5_book_17 ?_
    refine lv_sipush (v := (4940 : Int32)) C.1 C.2.1 dX5_book_20 (by decide) ?_
    obtain ⟨r_9, h_9, hF⟩ := kh_bd_ok hF
    refine kh_calli (va_runS (As := [.int x2, .int (ρ 15 1 0 0), .int (4940 : Int32)]) (rest := [.ref (ad 15 0)]) ⟨C.1, C.2.1, C.2.2.1, C.2.2.2.1, C.2.2.2.2.1⟩ (c_X5_in l D ca A ad ρ x2 (ρ 15 1 0 0) (4940 : Int32) h_9) (va_cwS 3 C.2.2.2.2.1 gX5_book_X5_in rfl rfl rfl (by decide +kernel) ⟨Nat.le_of_ble_eq_true rfl, Nat.le_of_ble_eq_true rfl⟩) (kh_preS C hw hS) rfl rfl hl.1.1 rfl (lv_room (kh_sum (kh_ac rfl kh_an) (Nat.le_of_ble_eq_true rfl))) dX5_book_23 ⟨Nat.le_of_ble_eq_true rfl, Nat.le_of_ble_eq_true rfl⟩) hS (kh_mp h_9) (fun H locs hw hS => ?_)
    refine lv_if_ne (tgt := 33) C.1 C.2.1 dX5_book_26 (by decide) (fun c_10 => ?_) (fun c_10 => ?_)
    · have hF := kh_iff hF c_10
      refine lv_aload_n C.1 C.2.1 dX5_book_33 rfl (kh_at hl 1 rfl) ?_
      refine lv_iload_n C.1 C.2.1 dX5_book_34 rfl (kh_at hl 2 rfl) ?_
      refine lv_iload_n C.1 C.2.1 dX5_book_35 rfl (kh_at hl 3 rfl) ?_
      obtain ⟨r_11, h_11, hF⟩ := kh_bd_ok hF
      refine kh_calli (va_runV (As := [.int x1, .int x2]) (rest := [.ref (ad 15 0)]) ⟨C.1, C.2.1, C.2.2.1, C.2.2.2.1, C.2.2.2.2.1⟩ (c_X5_canBook l D ca A ad ρ x1 x2 h_11) (cwV 2 C.2.2.2.2.1 gX5_book_X5_canBook rfl rfl rfl (by decide +kernel) ⟨Nat.le_of_ble_eq_true rfl, Nat.le_of_ble_eq_true rfl⟩) (kh_preV C hw hS 15 (kh_z15 ρ) kh_kd15 rfl) rfl rfl hl.1.1 rfl (lv_room (kh_sum (kh_ac rfl kh_an) (Nat.le_of_ble_eq_true rfl))) dX5_book_36 ⟨Nat.le_of_ble_eq_true rfl, Nat.le_of_ble_eq_true rfl⟩) hS (kh_mp h_11) (fun H locs hw hS => ?_)
      refine lv_if_eq (tgt := 51) C.1 C.2.1 dX5_book_39 (by decide) (fun c_12 => ?_) (fun c_12 => ?_)
      · have hF := kh_ift hF c_12
        exact wL51 ρ x1 x2 _ _ _ hF hw hS (kh_sub hl [1, 2, 3] rfl)
      · have hF := kh_iff hF c_12
        refine lv_aload_n C.1 C.2.1 dX5_book_42 rfl (kh_at hl 1 rfl) ?_
        refine kh_get C hw 15 27 rfl (kh_z15 ρ) kh_kd15 (Cn := RX5) (T := TX5) (N := 33) rfl (Nat.le_of_ble_eq_true rfl) k_106 (kf_15_27 ad ρ 0) dX5_book_43 ?_
        refine lv_bipush (v := (30 : Int32)) C.1 C.2.1 dX5_book_46 (by decide) ?_
        refine lv_icmp_ne (tgt := 55) C.1 C.2.1 dX5_book_48 (by decide) (fun c_13 => ?_) (fun c_13 => ?_)
        · have hF := kh_iff hF c_13
          refine lv_iconst (v := (0 : Int32)) C.1 C.2.1 dX5_book_55 (by decide) ?_
          exact wL56 ρ x1 x2 (0 : Int32) _ _ _ hF hw hS (kh_sub hl [1, 2, 3] rfl)
        · have hF := kh_ift hF c_13
          exact wL51 ρ x1 x2 _ _ _ hF hw hS (kh_sub hl [1, 2, 3] rfl)
    · have hF := kh_ift hF c_10
      refine lv_iconst (v := (2 : Int32)) C.1 C.2.1 dX5_book_29 (by decide) ?_
      refine lv_goto (tgt := 56) C.1 C.2.1 dX5_book_30 (by decide) ?_
      exact wL56 ρ x1 x2 (2 : Int32) _ _ _ hF hw hS (kh_sub hl [1, 2, 3] rfl)
  · have hF := kh_ift hF c_8
    refine lv_iconst (v := (1 : Int32)) C.1 C.2.1 dX5_book_11 (by decide) ?_
    refine lv_goto (tgt := 56) C.1 C.2.1 dX5_book_12 (by decide) ?_
    exact wL56 ρ x1 x2 (1 : Int32) _ _ _ hF hw hS (kh_sub hl [1, 2, 3] rfl)

def f_X5_cancel_L42 (ρ_42 : kh_S) : Option (kh_S) := some ρ_42
def f_X5_cancel_L29 (ρ_29 : kh_S) (x1_29 : Int32) (t1_29 : Int32) : Option (kh_S) := kh_bd2 (f_X5_refused ρ_29 t1_29) (fun r_1 ρ_1 => if r_1 = 0 then kh_gd (kh_in x1_29 30) (f_X5_cancel_L42 (kh_up ρ_1 50 0 0 x1_29.toNatClampNeg (2 : Int32))) else f_X5_cancel_L42 ρ_1)
def f_X5_cancel (ρ : kh_S) (x1 : Int32) : Option (kh_S) := kh_bd (f_X5_isBooking ρ x1) (fun r_4 => if r_4 = 0 then f_X5_cancel_L29 ρ x1 (1 : Int32) else kh_gd (kh_in x1 30) (if (ρ 50 0 0 x1.toNatClampNeg) = 0 then f_X5_cancel_L29 ρ x1 (0 : Int32) else f_X5_cancel_L29 ρ x1 (2 : Int32)))
set_option maxHeartbeats 4000000 in
set_option maxRecDepth 100000 in
theorem c_X5_cancel (l : Launch) (D : va_G) (ca : Nat → ClassId) (A : Nat → Prop) (ad : Nat → Nat → Nat) (ρ : kh_S) (x1 : Int32) {q0 : kh_S} (hF0 : f_X5_cancel ρ x1 = some q0) : Met l yX5_cancel wsX5_cancel ({ frames := 2, cells := 0, slots := 0, locals := 43 } : Room) (va_Pc [.ref (ad 15 0), .int x1] (kh_I D ca A ad ρ)) (kh_Qv D ca A ad (f_X5_cancel ρ x1)) 0 0 A := by
  refine Met.ofW (cc := cX5_cancel) (maxL := 3) (ret := none) (by decide) rfl ?_
  intro p e s m args below meth c s₁ B hml hv
  obtain ⟨rfl, hK, hw, hA⟩ := hv
  have C : kh_C p s m ([.ref (ad 15 0), .int x1]).toArray c cX5_cancel 3 RX5 wsX5_cancel D ca A := ⟨B.exec, B.bytes, hml, findClass_of_methodNamed B.named, atoms_spec (ws := wsX5_cancel) B.pre, hK, hA⟩
  have hr := B.returns
  have hlocks := B.notSynchronized
  have hS : va_S A s.heap s.heap [] := va_S.rf
  have hl := kh_entry ([.ref (ad 15 0), .int x1]) (n := 3) (kh_ac rfl (kh_ac rfl kh_an)) (Nat.le_of_ble_eq_true rfl)
  rw [lg_entry_eq]
  generalize (lg_sl ([.ref (ad 15 0), .int x1]) ++ List.replicate (3 - (lg_sl ([.ref (ad 15 0), .int x1])).length) Slot.unset).toArray = ls at hl ⊢
  have hl : kh_lv ls 3 [(0, .ref (ad 15 0)), (1, .int x1)] := hl
  have k_83 := C.2.2.2.2.1 (.fieldLink RX5 83 "KeylessHallModel" "bookHow" "[I") (by decide +kernel)
  have hF := hF0
  unfold f_X5_cancel at hF
  have wL42 : ∀ (ρ_42 : kh_S) (H : Heap) (locs : List Loc) (ls : Array Slot), f_X5_cancel_L42 ρ_42 = some q0 → kh_w D ca A ad ρ_42 H → va_S A s.heap H locs → kh_lv ls 3 [] → W p l e (headSpec wsX5_cancel ({ frames := 2, cells := 0, slots := 0, locals := 43 } : Room)).room s m ([.ref (ad 15 0), .int x1]).toArray below meth c H locs 0 0 (MQ below (kh_Qv D ca A ad (f_X5_cancel ρ x1)) ([.ref (ad 15 0), .int x1]).toArray s 0 0 A) (F0 m 42 ls []) := by
    intro ρ_42 H locs ls hF hw hS hl
    unfold f_X5_cancel_L42 at hF
    exact W.vret C.1 C.2.1 hr (fun t ht hW => ⟨⟨ρ_42, rfl, hF0.trans hF.symm, kh_bk ht hw⟩, hS.F ht⟩) hS.2.2 dX5_cancel_42
  have wL29 : ∀ (ρ_29 : kh_S) (x1_29 : Int32) (t1_29 : Int32) (H : Heap) (locs : List Loc) (ls : Array Slot), f_X5_cancel_L29 ρ_29 x1_29 t1_29 = some q0 → kh_w D ca A ad ρ_29 H → va_S A s.heap H locs → kh_lv ls 3 [(0, .ref (ad 15 0)), (1, .int x1_29)] → W p l e (headSpec wsX5_cancel ({ frames := 2, cells := 0, slots := 0, locals := 43 } : Room)).room s m ([.ref (ad 15 0), .int x1]).toArray below meth c H locs 0 0 (MQ below (kh_Qv D ca A ad (f_X5_cancel ρ x1)) ([.ref (ad 15 0), .int x1]).toArray s 0 0 A) (F0 m 29 ls [.int t1_29, .ref (ad 15 0)]) := by
    intro ρ_29 x1_29 t1_29 H locs ls hF hw hS hl
    unfold f_X5_cancel_L29 at hF
    obtain ⟨r_1, ρ_1, h_1, hF⟩ := kh_bd2_ok hF
    refine kh_calli (va_runV (As := [.int t1_29]) (rest := []) ⟨C.1, C.2.1, C.2.2.1, C.2.2.2.1, C.2.2.2.2.1⟩ (c_X5_refused l D ca A ad ρ_29 t1_29 h_1) (cwV 1 C.2.2.2.2.1 gX5_cancel_X5_refused rfl rfl rfl (by decide +kernel) ⟨Nat.le_of_ble_eq_true rfl, Nat.le_of_ble_eq_true rfl⟩) (kh_preV C hw hS 15 (kh_z15 ρ_29) kh_kd15 rfl) rfl rfl hl.1.1 rfl (lv_room (kh_sum kh_an (Nat.le_of_ble_eq_true rfl))) dX5_cancel_29 ⟨Nat.le_of_ble_eq_true rfl, Nat.le_of_ble_eq_true rfl⟩) hS h_1 (fun H locs hw hS => ?_)
    refine lv_if_ne (tgt := 42) C.1 C.2.1 dX5_cancel_32 (by decide) (fun c_2 => ?_) (fun c_2 => ?_)
    · have hF := kh_iff hF c_2
      exact wL42 ρ_1 _ _ _ hF hw hS (kh_sub hl [] rfl)
    · have hF := kh_ift hF c_2
      refine lv_aload_n C.1 C.2.1 dX5_cancel_35 rfl (kh_at hl 0 rfl) ?_
      refine kh_get C hw 15 30 rfl (kh_z15 ρ_1) kh_kd15 (Cn := RX5) (T := TX5) (N := 33) rfl (Nat.le_of_ble_eq_true rfl) k_83 (kf_15_30 ad ρ_1 0) dX5_cancel_36 ?_
      refine lv_iload_n C.1 C.2.1 dX5_cancel_39 rfl (kh_at hl 1 rfl) ?_
      refine lv_iconst (v := (2 : Int32)) C.1 C.2.1 dX5_cancel_40 (by decide) ?_
      obtain ⟨g_3, hF⟩ := kh_gd_ok hF
      refine kh_iast C hw hS 50 rfl (kh_z50 ρ_1) (by decide) kh_kd50 g_3 dX5_cancel_41 (fun H locs hw hS => ?_)
      exact wL42 (kh_up ρ_1 50 0 0 x1_29.toNatClampNeg (2 : Int32)) _ _ _ hF hw hS (kh_sub hl [] rfl)
  refine lv_aload_n C.1 C.2.1 dX5_cancel_0 rfl (kh_at hl 0 rfl) ?_
  refine lv_iload_n C.1 C.2.1 dX5_cancel_1 rfl (kh_at hl 1 rfl) ?_
  obtain ⟨r_4, h_4, hF⟩ := kh_bd_ok hF
  refine kh_calli (va_runV (As := [.int x1]) (rest := []) ⟨C.1, C.2.1, C.2.2.1, C.2.2.2.1, C.2.2.2.2.1⟩ (c_X5_isBooking l D ca A ad ρ x1 h_4) (cwV 1 C.2.2.2.2.1 gX5_cancel_X5_isBooking rfl rfl rfl (by decide +kernel) ⟨Nat.le_of_ble_eq_true rfl, Nat.le_of_ble_eq_true rfl⟩) (kh_preV C hw hS 15 (kh_z15 ρ) kh_kd15 rfl) rfl rfl hl.1.1 rfl (lv_room (kh_sum kh_an (Nat.le_of_ble_eq_true rfl))) dX5_cancel_2 ⟨Nat.le_of_ble_eq_true rfl, Nat.le_of_ble_eq_true rfl⟩) hS (kh_mp h_4) (fun H locs hw hS => ?_)
  refine kh_istore_n (lv' := [(2, .int r_4), (0, .ref (ad 15 0)), (1, .int x1)]) C.1 C.2.1 dX5_cancel_5 rfl hl (by decide) rfl (fun ls hl => ?_)
  refine lv_aload_n C.1 C.2.1 dX5_cancel_6 rfl (kh_at hl 1 rfl) ?_
  refine lv_iload_n C.1 C.2.1 dX5_cancel_7 rfl (kh_at hl 0 rfl) ?_
  refine lv_if_ne (tgt := 15) C.1 C.2.1 dX5_cancel_8 (by decide) (fun c_5 => ?_) (fun c_5 => ?_)
  · have hF := kh_iff hF c_5
    refine lv_aload_n C.1 C.2.1 dX5_cancel_15 rfl (kh_at hl 1 rfl) ?_
    refine kh_get C hw 15 30 rfl (kh_z15 ρ) kh_kd15 (Cn := RX5) (T := TX5) (N := 33) rfl (Nat.le_of_ble_eq_true rfl) k_83 (kf_15_30 ad ρ 0) dX5_cancel_16 ?_
    refine lv_iload_n C.1 C.2.1 dX5_cancel_19 rfl (kh_at hl 2 rfl) ?_
    obtain ⟨g_6, hF⟩ := kh_gd_ok hF
    refine kh_iald C hw 50 rfl (kh_z50 ρ) kh_kd50 g_6 dX5_cancel_20 ?_
    refine lv_if_eq (tgt := 28) C.1 C.2.1 dX5_cancel_21 (by decide) (fun c_7 => ?_) (fun c_7 => ?_)
    · have hF := kh_ift hF c_7
      refine lv_iconst (v := (0 : Int32)) C.1 C.2.1 dX5_cancel_28 (by decide) ?_
      exact wL29 ρ x1 (0 : Int32) _ _ _ hF hw hS (kh_sub hl [1, 2] rfl)
    · have hF := kh_iff hF c_7
      refine lv_iconst (v := (2 : Int32)) C.1 C.2.1 dX5_cancel_24 (by decide) ?_
      refine lv_goto (tgt := 29) C.1 C.2.1 dX5_cancel_25 (by decide) ?_
      exact wL29 ρ x1 (2 : Int32) _ _ _ hF hw hS (kh_sub hl [1, 2] rfl)
  · have hF := kh_ift hF c_5
    refine lv_iconst (v := (1 : Int32)) C.1 C.2.1 dX5_cancel_11 (by decide) ?_
    refine lv_goto (tgt := 29) C.1 C.2.1 dX5_cancel_12 (by decide) ?_
    exact wL29 ρ x1 (1 : Int32) _ _ _ hF hw hS (kh_sub hl [1, 2] rfl)

def f_X5_offer_L78 (ρ_78 : kh_S) : Option (Int32 × kh_S) := some ((-1 : Int32), ρ_78)
def f_X5_offer_L70 (ρ_70 : kh_S) (x3_70 : Int32) : Option (Int32 × kh_S) := some (x3_70, ρ_70)
def f_X5_offer_B54 (σ_54 : kh_S) (x1_c54 : Int32) (y3_54 : Int32) : Option ((Int32) ⊕ ((Int32) ⊕ (Unit))) := if (4940 : Int32) < y3_54 then some (.inr (.inr ())) else kh_bd (f_X5_canBook σ_54 x1_c54 y3_54) (fun r_2 => if r_2 = 0 then some (.inl (y3_54 + (1 : Int32))) else some (.inr (.inl y3_54)))
def f_X5_offer_A54 (σ_54 : kh_S) (x1_c54 : Int32) : ((Int32) ⊕ (Unit)) → Option (Int32 × kh_S) := (Sum.elim (fun u : Int32 => f_X5_offer_L70 σ_54 u) (fun u : Unit => f_X5_offer_L78 σ_54))
def f_X5_offer_L53 (ρ_53 : kh_S) (x1_53 : Int32) (t0_53 : Int32) : Option (Int32 × kh_S) := kh_bd (kh_lp (fun a : Int32 => f_X5_offer_B54 ρ_53 x1_53 a) 9999 t0_53) (f_X5_offer_A54 ρ_53 x1_53)
def f_X5_offer_L29 (ρ_29 : kh_S) (x1_29 : Int32) (x2_29 : Int32) (t1_29 : Int32) : Option (Int32 × kh_S) := kh_bd2 (f_X5_refused ρ_29 t1_29) (fun r_4 ρ_4 => if r_4 = 0 then if x2_29 ≤ (ρ_4 15 1 0 0) then f_X5_offer_L53 ρ_4 x1_29 (ρ_4 15 1 0 0) else f_X5_offer_L53 ρ_4 x1_29 x2_29 else some ((0 : Int32), ρ_4))
def f_X5_offer (ρ : kh_S) (x1 : Int32) (x2 : Int32) : Option (Int32 × kh_S) := kh_bd (f_X5_isRoom ρ x1) (fun r_7 => if r_7 = 0 then f_X5_offer_L29 ρ x1 x2 (1 : Int32) else kh_bd (f_X5_in ρ x2 (0 : Int32) (4940 : Int32)) (fun r_9 => if r_9 = 0 then f_X5_offer_L29 ρ x1 x2 (2 : Int32) else f_X5_offer_L29 ρ x1 x2 (0 : Int32)))
set_option maxHeartbeats 4000000 in
set_option maxRecDepth 100000 in
theorem c_X5_offer (l : Launch) (D : va_G) (ca : Nat → ClassId) (A : Nat → Prop) (ad : Nat → Nat → Nat) (ρ : kh_S) (x1 : Int32) (x2 : Int32) {q0 : Int32 × kh_S} (hF0 : f_X5_offer ρ x1 x2 = some q0) : Met l yX5_offer wsX5_offer ({ frames := 2, cells := 0, slots := 0, locals := 49 } : Room) (va_Pc [.ref (ad 15 0), .int x1, .int x2] (kh_I D ca A ad ρ)) (kh_Qi D ca A ad (f_X5_offer ρ x1 x2)) 0 0 A := by
  refine Met.ofW (cc := cX5_offer) (maxL := 4) (ret := (some .int)) (by decide) rfl ?_
  intro p e s m args below meth c s₁ B hml hv
  obtain ⟨rfl, hK, hw, hA⟩ := hv
  have C : kh_C p s m ([.ref (ad 15 0), .int x1, .int x2]).toArray c cX5_offer 4 RX5 wsX5_offer D ca A := ⟨B.exec, B.bytes, hml, findClass_of_methodNamed B.named, atoms_spec (ws := wsX5_offer) B.pre, hK, hA⟩
  have hr := B.returns
  have hlocks := B.notSynchronized
  have hS : va_S A s.heap s.heap [] := va_S.rf
  have hl := kh_entry ([.ref (ad 15 0), .int x1, .int x2]) (n := 4) (kh_ac rfl (kh_ac rfl (kh_ac rfl kh_an))) (Nat.le_of_ble_eq_true rfl)
  rw [lg_entry_eq]
  generalize (lg_sl ([.ref (ad 15 0), .int x1, .int x2]) ++ List.replicate (4 - (lg_sl ([.ref (ad 15 0), .int x1, .int x2])).length) Slot.unset).toArray = ls at hl ⊢
  have hl : kh_lv ls 4 [(0, .ref (ad 15 0)), (1, .int x1), (2, .int x2)] := hl
  have k_141 := C.2.2.2.2.1 (.fieldLink RX5 141 "KeylessHallModel" "minute" "I") (by decide +kernel)
  have hF := hF0
  unfold f_X5_offer at hF
  have wL78 : ∀ (ρ_78 : kh_S) (H : Heap) (locs : List Loc) (ls : Array Slot), f_X5_offer_L78 ρ_78 = some q0 → kh_w D ca A ad ρ_78 H → va_S A s.heap H locs → kh_lv ls 4 [] → W p l e (headSpec wsX5_offer ({ frames := 2, cells := 0, slots := 0, locals := 49 } : Room)).room s m ([.ref (ad 15 0), .int x1, .int x2]).toArray below meth c H locs 0 0 (MQ below (kh_Qi D ca A ad (f_X5_offer ρ x1 x2)) ([.ref (ad 15 0), .int x1, .int x2]).toArray s 0 0 A) (F0 m 78 ls []) := by
    intro ρ_78 H locs ls hF hw hS hl
    unfold f_X5_offer_L78 at hF
    refine lv_iconst (v := (-1 : Int32)) C.1 C.2.1 dX5_offer_78 (by decide) ?_
    exact W.iret (v := (-1 : Int32)) C.1 C.2.1 hr (fun t ht hW => ⟨⟨(-1 : Int32), ρ_78, rfl, hF0.trans hF.symm, kh_bk ht hw⟩, hS.F ht⟩) hS.2.2 dX5_offer_79
  have wL70 : ∀ (ρ_70 : kh_S) (x3_70 : Int32) (H : Heap) (locs : List Loc) (ls : Array Slot), f_X5_offer_L70 ρ_70 x3_70 = some q0 → kh_w D ca A ad ρ_70 H → va_S A s.heap H locs → kh_lv ls 4 [(3, .int x3_70)] → W p l e (headSpec wsX5_offer ({ frames := 2, cells := 0, slots := 0, locals := 49 } : Room)).room s m ([.ref (ad 15 0), .int x1, .int x2]).toArray below meth c H locs 0 0 (MQ below (kh_Qi D ca A ad (f_X5_offer ρ x1 x2)) ([.ref (ad 15 0), .int x1, .int x2]).toArray s 0 0 A) (F0 m 70 ls []) := by
    intro ρ_70 x3_70 H locs ls hF hw hS hl
    unfold f_X5_offer_L70 at hF
    refine lv_iload_n C.1 C.2.1 dX5_offer_70 rfl (kh_at hl 0 rfl) ?_
    exact W.iret (v := x3_70) C.1 C.2.1 hr (fun t ht hW => ⟨⟨x3_70, ρ_70, rfl, hF0.trans hF.symm, kh_bk ht hw⟩, hS.F ht⟩) hS.2.2 dX5_offer_71
  have wB54 : ∀ (σ_54 : kh_S) (x1_c54 : Int32) (b : (Int32) ⊕ (Unit)), f_X5_offer_A54 σ_54 x1_c54 b = some q0 → ∀ (n : Nat) (y3_54 : Int32) (H : Heap) (locs : List Loc) (ls : Array Slot), kh_lp (fun a : Int32 => f_X5_offer_B54 σ_54 x1_c54 a) n y3_54 = some b → kh_w D ca A ad σ_54 H → va_S A s.heap H locs → kh_lv ls 4 [(0, .ref (ad 15 0)), (1, .int x1_c54), (3, .int y3_54)] → W p l e (headSpec wsX5_offer ({ frames := 2, cells := 0, slots := 0, locals := 49 } : Room)).room s m ([.ref (ad 15 0), .int x1, .int x2]).toArray below meth c H locs 0 0 (MQ below (kh_Qi D ca A ad (f_X5_offer ρ x1 x2)) ([.ref (ad 15 0), .int x1, .int x2]).toArray s 0 0 A) (F0 m 54 ls []) := by
    intro σ_54 x1_c54 b hA_54 n
    induction n with
    | zero => intro y3_54 H locs ls h9; exact absurd h9 (fun z => nomatch z)
    | succ n ih_54 =>
      intro y3_54 H locs ls hb_54 hw hS hl
      obtain ⟨q_54, hF, hb_54⟩ := kh_lp_ok hb_54
      have hF : f_X5_offer_B54 σ_54 x1_c54 y3_54 = some q_54 := hF
      unfold f_X5_offer_B54 at hF
      refine lv_iload_n C.1 C.2.1 dX5_offer_54 rfl (kh_at hl 2 rfl) ?_
      refine lv_sipush (v := (4940 : Int32)) C.1 C.2.1 dX5_offer_55 (by decide) ?_
      refine lv_icmp_gt (tgt := 78) C.1 C.2.1 dX5_offer_58 (by decide) (fun c_1 => ?_) (fun c_1 => ?_)
      · have hF := kh_ift hF c_1
        have e9 := Option.some.inj hF
        rcases hb_54 with ⟨a9, h8, h9⟩ | h8
        · exact absurd (e9.trans h8) (fun z => nomatch z)
        have h7 := Sum.inr.inj (e9.trans h8)
        have hF := (congrArg (f_X5_offer_A54 σ_54 x1_c54) h7).trans hA_54
        exact wL78 σ_54 _ _ _ hF hw hS (kh_sub hl [] rfl)
      · have hF := kh_iff hF c_1
        refine lv_aload_n C.1 C.2.1 dX5_offer_61 rfl (kh_at hl 0 rfl) ?_
        refine lv_iload_n C.1 C.2.1 dX5_offer_62 rfl (kh_at hl 1 rfl) ?_
        refine lv_iload_n C.1 C.2.1 dX5_offer_63 rfl (kh_at hl 2 rfl) ?_
        obtain ⟨r_2, h_2, hF⟩ := kh_bd_ok hF
        refine kh_calli (va_runV (As := [.int x1_c54, .int y3_54]) (rest := []) ⟨C.1, C.2.1, C.2.2.1, C.2.2.2.1, C.2.2.2.2.1⟩ (c_X5_canBook l D ca A ad σ_54 x1_c54 y3_54 h_2) (cwV 2 C.2.2.2.2.1 gX5_offer_X5_canBook rfl rfl rfl (by decide +kernel) ⟨Nat.le_of_ble_eq_true rfl, Nat.le_of_ble_eq_true rfl⟩) (kh_preV C hw hS 15 (kh_z15 σ_54) kh_kd15 rfl) rfl rfl hl.1.1 rfl (lv_room (kh_sum kh_an (Nat.le_of_ble_eq_true rfl))) dX5_offer_64 ⟨Nat.le_of_ble_eq_true rfl, Nat.le_of_ble_eq_true rfl⟩) hS (kh_mp h_2) (fun H locs hw hS => ?_)
        refine lv_if_eq (tgt := 72) C.1 C.2.1 dX5_offer_67 (by decide) (fun c_3 => ?_) (fun c_3 => ?_)
        · have hF := kh_ift hF c_3
          refine kh_iinc (v := y3_54 + (1 : Int32)) (lv' := [(3, .int (y3_54 + (1 : Int32))), (0, .ref (ad 15 0)), (1, .int x1_c54)]) C.1 C.2.1 dX5_offer_72 hl (k := 2) rfl (by rfl) (by decide) rfl (fun ls hl => ?_)
          refine lv_goto (tgt := 54) C.1 C.2.1 dX5_offer_75 (by decide) ?_
          have e9 := Option.some.inj hF
          rcases hb_54 with ⟨a9, h8, h9⟩ | h8
          · have h7 := Sum.inl.inj (e9.trans h8)
            subst h7
            exact ih_54 _ _ _ _ h9 hw hS (kh_sub hl [1, 2, 0] rfl)
          · exact absurd (e9.trans h8) (fun z => nomatch z)
        · have hF := kh_iff hF c_3
          have e9 := Option.some.inj hF
          rcases hb_54 with ⟨a9, h8, h9⟩ | h8
          · exact absurd (e9.trans h8) (fun z => nomatch z)
          have h7 := Sum.inr.inj (e9.trans h8)
          have hF := (congrArg (f_X5_offer_A54 σ_54 x1_c54) h7).trans hA_54
          exact wL70 σ_54 y3_54 _ _ _ hF hw hS (kh_sub hl [2] rfl)
  have wL53 : ∀ (ρ_53 : kh_S) (x1_53 : Int32) (t0_53 : Int32) (H : Heap) (locs : List Loc) (ls : Array Slot), f_X5_offer_L53 ρ_53 x1_53 t0_53 = some q0 → kh_w D ca A ad ρ_53 H → va_S A s.heap H locs → kh_lv ls 4 [(0, .ref (ad 15 0)), (1, .int x1_53)] → W p l e (headSpec wsX5_offer ({ frames := 2, cells := 0, slots := 0, locals := 49 } : Room)).room s m ([.ref (ad 15 0), .int x1, .int x2]).toArray below meth c H locs 0 0 (MQ below (kh_Qi D ca A ad (f_X5_offer ρ x1 x2)) ([.ref (ad 15 0), .int x1, .int x2]).toArray s 0 0 A) (F0 m 53 ls [.int t0_53]) := by
    intro ρ_53 x1_53 t0_53 H locs ls hF hw hS hl
    unfold f_X5_offer_L53 at hF
    refine kh_istore_n (lv' := [(3, .int t0_53), (0, .ref (ad 15 0)), (1, .int x1_53)]) C.1 C.2.1 dX5_offer_53 rfl hl (by decide) rfl (fun ls hl => ?_)
    obtain ⟨b_54, hb_54, hF⟩ := kh_bd_ok hF
    exact wB54 ρ_53 x1_53 b_54 hF _ t0_53 _ _ _ hb_54 hw hS (kh_sub hl [1, 2, 0] rfl)
  have wL29 : ∀ (ρ_29 : kh_S) (x1_29 : Int32) (x2_29 : Int32) (t1_29 : Int32) (H : Heap) (locs : List Loc) (ls : Array Slot), f_X5_offer_L29 ρ_29 x1_29 x2_29 t1_29 = some q0 → kh_w D ca A ad ρ_29 H → va_S A s.heap H locs → kh_lv ls 4 [(0, .ref (ad 15 0)), (1, .int x1_29), (2, .int x2_29)] → W p l e (headSpec wsX5_offer ({ frames := 2, cells := 0, slots := 0, locals := 49 } : Room)).room s m ([.ref (ad 15 0), .int x1, .int x2]).toArray below meth c H locs 0 0 (MQ below (kh_Qi D ca A ad (f_X5_offer ρ x1 x2)) ([.ref (ad 15 0), .int x1, .int x2]).toArray s 0 0 A) (F0 m 29 ls [.int t1_29, .ref (ad 15 0)]) := by
    intro ρ_29 x1_29 x2_29 t1_29 H locs ls hF hw hS hl
    unfold f_X5_offer_L29 at hF
    obtain ⟨r_4, ρ_4, h_4, hF⟩ := kh_bd2_ok hF
    refine kh_calli (va_runV (As := [.int t1_29]) (rest := []) ⟨C.1, C.2.1, C.2.2.1, C.2.2.2.1, C.2.2.2.2.1⟩ (c_X5_refused l D ca A ad ρ_29 t1_29 h_4) (cwV 1 C.2.2.2.2.1 gX5_offer_X5_refused rfl rfl rfl (by decide +kernel) ⟨Nat.le_of_ble_eq_true rfl, Nat.le_of_ble_eq_true rfl⟩) (kh_preV C hw hS 15 (kh_z15 ρ_29) kh_kd15 rfl) rfl rfl hl.1.1 rfl (lv_room (kh_sum kh_an (Nat.le_of_ble_eq_true rfl))) dX5_offer_29 ⟨Nat.le_of_ble_eq_true rfl, Nat.le_of_ble_eq_true rfl⟩) hS h_4 (fun H locs hw hS => ?_)
    refine lv_if_eq (tgt := 37) C.1 C.2.1 dX5_offer_32 (by decide) (fun c_5 => ?_) (fun c_5 => ?_)
    · have hF := kh_ift hF c_5
      refine lv_iload_n C.1 C.2.1 dX5_offer_37 rfl (kh_at hl 2 rfl) ?_
      refine lv_aload_n C.1 C.2.1 dX5_offer_38 rfl (kh_at hl 0 rfl) ?_
      refine kh_get C hw 15 1 rfl (kh_z15 ρ_4) kh_kd15 (Cn := RX5) (T := TX5) (N := 33) rfl (Nat.le_of_ble_eq_true rfl) k_141 (kf_15_1 ad ρ_4 0) dX5_offer_39 ?_
      refine lv_icmp_le (tgt := 49) C.1 C.2.1 dX5_offer_42 (by decide) (fun c_6 => ?_) (fun c_6 => ?_)
      · have hF := kh_ift hF c_6
        refine lv_aload_n C.1 C.2.1 dX5_offer_49 rfl (kh_at hl 0 rfl) ?_
        refine kh_get C hw 15 1 rfl (kh_z15 ρ_4) kh_kd15 (Cn := RX5) (T := TX5) (N := 33) rfl (Nat.le_of_ble_eq_true rfl) k_141 (kf_15_1 ad ρ_4 0) dX5_offer_50 ?_
        exact wL53 ρ_4 x1_29 (ρ_4 15 1 0 0) _ _ _ hF hw hS (kh_sub hl [0, 1] rfl)
      · have hF := kh_iff hF c_6
        refine lv_iload_n C.1 C.2.1 dX5_offer_45 rfl (kh_at hl 2 rfl) ?_
        refine lv_goto (tgt := 53) C.1 C.2.1 dX5_offer_46 (by decide) ?_
        exact wL53 ρ_4 x1_29 x2_29 _ _ _ hF hw hS (kh_sub hl [0, 1] rfl)
    · have hF := kh_iff hF c_5
      refine lv_iconst (v := (0 : Int32)) C.1 C.2.1 dX5_offer_35 (by decide) ?_
      exact W.iret (v := (0 : Int32)) C.1 C.2.1 hr (fun t ht hW => ⟨⟨(0 : Int32), ρ_4, rfl, hF0.trans hF.symm, kh_bk ht hw⟩, hS.F ht⟩) hS.2.2 dX5_offer_36
  refine lv_aload_n C.1 C.2.1 dX5_offer_0 rfl (kh_at hl 0 rfl) ?_
  refine lv_aload_n C.1 C.2.1 dX5_offer_1 rfl (kh_at hl 0 rfl) ?_
  refine lv_iload_n C.1 C.2.1 dX5_offer_2 rfl (kh_at hl 1 rfl) ?_
  obtain ⟨r_7, h_7, hF⟩ := kh_bd_ok hF
  refine kh_calli (va_runV (As := [.int x1]) (rest := [.ref (ad 15 0)]) ⟨C.1, C.2.1, C.2.2.1, C.2.2.2.1, C.2.2.2.2.1⟩ (c_X5_isRoom l D ca A ad ρ x1 h_7) (cwV 1 C.2.2.2.2.1 gX5_offer_X5_isRoom rfl rfl rfl (by decide +kernel) ⟨Nat.le_of_ble_eq_true rfl, Nat.le_of_ble_eq_true rfl⟩) (kh_preV C hw hS 15 (kh_z15 ρ) kh_kd15 rfl) rfl rfl hl.1.1 rfl (lv_room (kh_sum (kh_ac rfl kh_an) (Nat.le_of_ble_eq_true rfl))) dX5_offer_3 ⟨Nat.le_of_ble_eq_true rfl, Nat.le_of_ble_eq_true rfl⟩) hS (kh_mp h_7) (fun H locs hw hS => ?_)
  refine lv_if_ne (tgt := 13) C.1 C.2.1 dX5_offer_6 (by decide) (fun c_8 => ?_) (fun c_8 => ?_)
  · have hF := kh_iff hF c_8
    refine lv_iload_n C.1 C.2.1 dX5_offer_13 rfl (kh_at hl 2 rfl) ?_
    refine lv_iconst (v := (0 : Int32)) C.1 C.2.1 dX5_offer_14 (by decide) ?_
    refine lv_sipush (v := (4940 : Int32)) C.1 C.2.1 dX5_offer_15 (by decide) ?_
    obtain ⟨r_9, h_9, hF⟩ := kh_bd_ok hF
    refine kh_calli (va_runS (As := [.int x2, .int (0 : Int32), .int (4940 : Int32)]) (rest := [.ref (ad 15 0)]) ⟨C.1, C.2.1, C.2.2.1, C.2.2.2.1, C.2.2.2.2.1⟩ (c_X5_in l D ca A ad ρ x2 (0 : Int32) (4940 : Int32) h_9) (va_cwS 3 C.2.2.2.2.1 gX5_offer_X5_in rfl rfl rfl (by decide +kernel) ⟨Nat.le_of_ble_eq_true rfl, Nat.le_of_ble_eq_true rfl⟩) (kh_preS C hw hS) rfl rfl hl.1.1 rfl (lv_room (kh_sum (kh_ac rfl kh_an) (Nat.le_of_ble_eq_true rfl))) dX5_offer_18 ⟨Nat.le_of_ble_eq_true rfl, Nat.le_of_ble_eq_true rfl⟩) hS (kh_mp h_9) (fun H locs hw hS => ?_)
    refine lv_if_ne (tgt := 28) C.1 C.2.1 dX5_offer_21 (by decide) (fun c_10 => ?_) (fun c_10 => ?_)
    · have hF := kh_iff hF c_10
      refine lv_iconst (v := (0 : Int32)) C.1 C.2.1 dX5_offer_28 (by decide) ?_
      exact wL29 ρ x1 x2 (0 : Int32) _ _ _ hF hw hS (kh_sub hl [0, 1, 2] rfl)
    · have hF := kh_ift hF c_10
      refine lv_iconst (v := (2 : Int32)) C.1 C.2.1 dX5_offer_24 (by decide) ?_
      refine lv_goto (tgt := 29) C.1 C.2.1 dX5_offer_25 (by decide) ?_
      exact wL29 ρ x1 x2 (2 : Int32) _ _ _ hF hw hS (kh_sub hl [0, 1, 2] rfl)
  · have hF := kh_ift hF c_8
    refine lv_iconst (v := (1 : Int32)) C.1 C.2.1 dX5_offer_9 (by decide) ?_
    refine lv_goto (tgt := 29) C.1 C.2.1 dX5_offer_10 (by decide) ?_
    exact wL29 ρ x1 x2 (1 : Int32) _ _ _ hF hw hS (kh_sub hl [0, 1, 2] rfl)

def f_X5_works_L86 (ρ_86 : kh_S) : Option (kh_S) := some ρ_86
def f_X5_works_L48 (ρ_48 : kh_S) (x1_48 : Int32) : Option (kh_S) := kh_gd (kh_in x1_48 3) (if (ρ_48 45 0 0 x1_48.toNatClampNeg) = 0 then kh_gd (kh_in (ρ_48 43 0 0 x1_48.toNatClampNeg) 4) (kh_bd (f_X5_begins (kh_up ρ_48 27 0 0 (ρ_48 43 0 0 x1_48.toNatClampNeg).toNatClampNeg ((ρ_48 27 0 0 (ρ_48 43 0 0 x1_48.toNatClampNeg).toNatClampNeg) &&& (((1 : Int32) <<< ((ρ_48 44 0 0 x1_48.toNatClampNeg) &&& 31)) ^^^ (-1 : Int32)))) x1_48) (fun ρ_4 => f_X5_works_L86 ρ_4)) else f_X5_works_L86 ρ_48)
def f_X5_works (ρ : kh_S) (x1 : Int32) : Option (kh_S) := kh_gd (kh_in x1 3) (if (ρ 43 0 0 x1.toNatClampNeg) = (-1 : Int32) then some ρ else if ((kh_up ρ 45 0 0 x1.toNatClampNeg ((ρ 45 0 0 x1.toNatClampNeg) - (1 : Int32))) 45 0 0 x1.toNatClampNeg) = 0 then if ((kh_up ρ 45 0 0 x1.toNatClampNeg ((ρ 45 0 0 x1.toNatClampNeg) - (1 : Int32))) 44 0 0 x1.toNatClampNeg) = (-1 : Int32) then kh_bd (f_X5_isDone (kh_up ρ 45 0 0 x1.toNatClampNeg ((ρ 45 0 0 x1.toNatClampNeg) - (1 : Int32))) x1) (fun ρ_9 => f_X5_works_L86 ρ_9) else f_X5_works_L48 (kh_up ρ 45 0 0 x1.toNatClampNeg ((ρ 45 0 0 x1.toNatClampNeg) - (1 : Int32))) x1 else f_X5_works_L48 (kh_up ρ 45 0 0 x1.toNatClampNeg ((ρ 45 0 0 x1.toNatClampNeg) - (1 : Int32))) x1)
set_option maxHeartbeats 4000000 in
set_option maxRecDepth 100000 in
theorem c_X5_works (l : Launch) (D : va_G) (ca : Nat → ClassId) (A : Nat → Prop) (ad : Nat → Nat → Nat) (ρ : kh_S) (x1 : Int32) {q0 : kh_S} (hF0 : f_X5_works ρ x1 = some q0) : Met l yX5_works wsX5_works ({ frames := 2, cells := 0, slots := 0, locals := 50 } : Room) (va_Pc [.ref (ad 15 0), .int x1] (kh_I D ca A ad ρ)) (kh_Qv D ca A ad (f_X5_works ρ x1)) 0 0 A := by
  refine Met.ofW (cc := cX5_works) (maxL := 2) (ret := none) (by decide) rfl ?_
  intro p e s m args below meth c s₁ B hml hv
  obtain ⟨rfl, hK, hw, hA⟩ := hv
  have C : kh_C p s m ([.ref (ad 15 0), .int x1]).toArray c cX5_works 2 RX5 wsX5_works D ca A := ⟨B.exec, B.bytes, hml, findClass_of_methodNamed B.named, atoms_spec (ws := wsX5_works) B.pre, hK, hA⟩
  have hr := B.returns
  have hlocks := B.notSynchronized
  have hS : va_S A s.heap s.heap [] := va_S.rf
  have hl := kh_entry ([.ref (ad 15 0), .int x1]) (n := 2) (kh_ac rfl (kh_ac rfl kh_an)) (Nat.le_of_ble_eq_true rfl)
  rw [lg_entry_eq]
  generalize (lg_sl ([.ref (ad 15 0), .int x1]) ++ List.replicate (2 - (lg_sl ([.ref (ad 15 0), .int x1])).length) Slot.unset).toArray = ls at hl ⊢
  have hl : kh_lv ls 2 [(0, .ref (ad 15 0)), (1, .int x1)] := hl
  have k_70 := C.2.2.2.2.1 (.fieldLink RX5 70 "KeylessHallModel" "crewLeft" "[I") (by decide +kernel)
  have k_19 := C.2.2.2.2.1 (.fieldLink RX5 19 "KeylessHallModel" "toReset" "[I") (by decide +kernel)
  have k_64 := C.2.2.2.2.1 (.fieldLink RX5 64 "KeylessHallModel" "crewRoom" "[I") (by decide +kernel)
  have k_67 := C.2.2.2.2.1 (.fieldLink RX5 67 "KeylessHallModel" "crewPuzzle" "[I") (by decide +kernel)
  have hF := hF0
  unfold f_X5_works at hF
  have wL86 : ∀ (ρ_86 : kh_S) (H : Heap) (locs : List Loc) (ls : Array Slot), f_X5_works_L86 ρ_86 = some q0 → kh_w D ca A ad ρ_86 H → va_S A s.heap H locs → kh_lv ls 2 [] → W p l e (headSpec wsX5_works ({ frames := 2, cells := 0, slots := 0, locals := 50 } : Room)).room s m ([.ref (ad 15 0), .int x1]).toArray below meth c H locs 0 0 (MQ below (kh_Qv D ca A ad (f_X5_works ρ x1)) ([.ref (ad 15 0), .int x1]).toArray s 0 0 A) (F0 m 86 ls []) := by
    intro ρ_86 H locs ls hF hw hS hl
    unfold f_X5_works_L86 at hF
    exact W.vret C.1 C.2.1 hr (fun t ht hW => ⟨⟨ρ_86, rfl, hF0.trans hF.symm, kh_bk ht hw⟩, hS.F ht⟩) hS.2.2 dX5_works_86
  have wL48 : ∀ (ρ_48 : kh_S) (x1_48 : Int32) (H : Heap) (locs : List Loc) (ls : Array Slot), f_X5_works_L48 ρ_48 x1_48 = some q0 → kh_w D ca A ad ρ_48 H → va_S A s.heap H locs → kh_lv ls 2 [(0, .ref (ad 15 0)), (1, .int x1_48)] → W p l e (headSpec wsX5_works ({ frames := 2, cells := 0, slots := 0, locals := 50 } : Room)).room s m ([.ref (ad 15 0), .int x1]).toArray below meth c H locs 0 0 (MQ below (kh_Qv D ca A ad (f_X5_works ρ x1)) ([.ref (ad 15 0), .int x1]).toArray s 0 0 A) (F0 m 48 ls []) := by
    intro ρ_48 x1_48 H locs ls hF hw hS hl
    unfold f_X5_works_L48 at hF
    refine lv_aload_n C.1 C.2.1 dX5_works_48 rfl (kh_at hl 0 rfl) ?_
    refine kh_get C hw 15 25 rfl (kh_z15 ρ_48) kh_kd15 (Cn := RX5) (T := TX5) (N := 33) rfl (Nat.le_of_ble_eq_true rfl) k_70 (kf_15_25 ad ρ_48 0) dX5_works_49 ?_
    refine lv_iload_n C.1 C.2.1 dX5_works_52 rfl (kh_at hl 1 rfl) ?_
    obtain ⟨g_1, hF⟩ := kh_gd_ok hF
    refine kh_iald C hw 45 rfl (kh_z45 ρ_48) kh_kd45 g_1 dX5_works_53 ?_
    refine lv_if_ne (tgt := 86) C.1 C.2.1 dX5_works_54 (by decide) (fun c_2 => ?_) (fun c_2 => ?_)
    · have hF := kh_iff hF c_2
      exact wL86 ρ_48 _ _ _ hF hw hS (kh_sub hl [] rfl)
    · have hF := kh_ift hF c_2
      refine lv_aload_n C.1 C.2.1 dX5_works_57 rfl (kh_at hl 0 rfl) ?_
      refine kh_get C hw 15 7 rfl (kh_z15 ρ_48) kh_kd15 (Cn := RX5) (T := TX5) (N := 33) rfl (Nat.le_of_ble_eq_true rfl) k_19 (kf_15_7 ad ρ_48 0) dX5_works_58 ?_
      refine lv_aload_n C.1 C.2.1 dX5_works_61 rfl (kh_at hl 0 rfl) ?_
      refine kh_get C hw 15 23 rfl (kh_z15 ρ_48) kh_kd15 (Cn := RX5) (T := TX5) (N := 33) rfl (Nat.le_of_ble_eq_true rfl) k_64 (kf_15_23 ad ρ_48 0) dX5_works_62 ?_
      refine lv_iload_n C.1 C.2.1 dX5_works_65 rfl (kh_at hl 1 rfl) ?_
      refine kh_iald C hw 43 rfl (kh_z43 ρ_48) kh_kd43 g_1 dX5_works_66 ?_
      refine lv_dup2_11 C.1 C.2.1 dX5_works_67 rfl rfl ?_
      obtain ⟨g_3, hF⟩ := kh_gd_ok hF
      refine kh_iald C hw 27 rfl (kh_z27 ρ_48) kh_kd27 g_3 dX5_works_68 ?_
      refine lv_iconst (v := (1 : Int32)) C.1 C.2.1 dX5_works_69 (by decide) ?_
      refine lv_aload_n C.1 C.2.1 dX5_works_70 rfl (kh_at hl 0 rfl) ?_
      refine kh_get C hw 15 24 rfl (kh_z15 ρ_48) kh_kd15 (Cn := RX5) (T := TX5) (N := 33) rfl (Nat.le_of_ble_eq_true rfl) k_67 (kf_15_24 ad ρ_48 0) dX5_works_71 ?_
      refine lv_iload_n C.1 C.2.1 dX5_works_74 rfl (kh_at hl 1 rfl) ?_
      refine kh_iald C hw 44 rfl (kh_z44 ρ_48) kh_kd44 g_1 dX5_works_75 ?_
      refine lv_ishl C.1 C.2.1 dX5_works_76 ?_
      refine lv_iconst (v := (-1 : Int32)) C.1 C.2.1 dX5_works_77 (by decide) ?_
      refine lv_ixor C.1 C.2.1 dX5_works_78 ?_
      refine lv_iand C.1 C.2.1 dX5_works_79 ?_
      refine kh_iast C hw hS 27 rfl (kh_z27 ρ_48) (by decide) kh_kd27 g_3 dX5_works_80 (fun H locs hw hS => ?_)
      refine lv_aload_n C.1 C.2.1 dX5_works_81 rfl (kh_at hl 0 rfl) ?_
      refine lv_iload_n C.1 C.2.1 dX5_works_82 rfl (kh_at hl 1 rfl) ?_
      obtain ⟨ρ_4, h_4, hF⟩ := kh_bd_ok hF
      refine kh_callv (va_runV (As := [.int x1_48]) (rest := []) ⟨C.1, C.2.1, C.2.2.1, C.2.2.2.1, C.2.2.2.2.1⟩ (c_X5_begins l D ca A ad (kh_up ρ_48 27 0 0 (ρ_48 43 0 0 x1_48.toNatClampNeg).toNatClampNeg ((ρ_48 27 0 0 (ρ_48 43 0 0 x1_48.toNatClampNeg).toNatClampNeg) &&& (((1 : Int32) <<< ((ρ_48 44 0 0 x1_48.toNatClampNeg) &&& 31)) ^^^ (-1 : Int32)))) x1_48 h_4) (cwV 1 C.2.2.2.2.1 gX5_works_X5_begins rfl rfl rfl (by decide +kernel) ⟨Nat.le_of_ble_eq_true rfl, Nat.le_of_ble_eq_true rfl⟩) (kh_preV C hw hS 15 (kh_z15 (kh_up ρ_48 27 0 0 (ρ_48 43 0 0 x1_48.toNatClampNeg).toNatClampNeg ((ρ_48 27 0 0 (ρ_48 43 0 0 x1_48.toNatClampNeg).toNatClampNeg) &&& (((1 : Int32) <<< ((ρ_48 44 0 0 x1_48.toNatClampNeg) &&& 31)) ^^^ (-1 : Int32))))) kh_kd15 rfl) rfl rfl hl.1.1 rfl (lv_room (kh_sum kh_an (Nat.le_of_ble_eq_true rfl))) dX5_works_83 ⟨Nat.le_of_ble_eq_true rfl, Nat.le_of_ble_eq_true rfl⟩) hS h_4 (fun H locs hw hS => ?_)
      exact wL86 ρ_4 _ _ _ hF hw hS (kh_sub hl [] rfl)
  refine lv_aload_n C.1 C.2.1 dX5_works_0 rfl (kh_at hl 0 rfl) ?_
  refine kh_get C hw 15 23 rfl (kh_z15 ρ) kh_kd15 (Cn := RX5) (T := TX5) (N := 33) rfl (Nat.le_of_ble_eq_true rfl) k_64 (kf_15_23 ad ρ 0) dX5_works_1 ?_
  refine lv_iload_n C.1 C.2.1 dX5_works_4 rfl (kh_at hl 1 rfl) ?_
  obtain ⟨g_5, hF⟩ := kh_gd_ok hF
  refine kh_iald C hw 43 rfl (kh_z43 ρ) kh_kd43 g_5 dX5_works_5 ?_
  refine lv_iconst (v := (-1 : Int32)) C.1 C.2.1 dX5_works_6 (by decide) ?_
  refine lv_icmp_ne (tgt := 11) C.1 C.2.1 dX5_works_7 (by decide) (fun c_6 => ?_) (fun c_6 => ?_)
  · have hF := kh_iff hF c_6
    refine lv_aload_n C.1 C.2.1 dX5_works_11 rfl (kh_at hl 0 rfl) ?_
    refine kh_get C hw 15 25 rfl (kh_z15 ρ) kh_kd15 (Cn := RX5) (T := TX5) (N := 33) rfl (Nat.le_of_ble_eq_true rfl) k_70 (kf_15_25 ad ρ 0) dX5_works_12 ?_
    refine lv_iload_n C.1 C.2.1 dX5_works_15 rfl (kh_at hl 1 rfl) ?_
    refine lv_dup2_11 C.1 C.2.1 dX5_works_16 rfl rfl ?_
    refine kh_iald C hw 45 rfl (kh_z45 ρ) kh_kd45 g_5 dX5_works_17 ?_
    refine lv_iconst (v := (1 : Int32)) C.1 C.2.1 dX5_works_18 (by decide) ?_
    refine lv_isub C.1 C.2.1 dX5_works_19 ?_
    refine kh_iast C hw hS 45 rfl (kh_z45 ρ) (by decide) kh_kd45 g_5 dX5_works_20 (fun H locs hw hS => ?_)
    refine lv_aload_n C.1 C.2.1 dX5_works_21 rfl (kh_at hl 0 rfl) ?_
    refine kh_get C hw 15 25 rfl (kh_z15 (kh_up ρ 45 0 0 x1.toNatClampNeg ((ρ 45 0 0 x1.toNatClampNeg) - (1 : Int32)))) kh_kd15 (Cn := RX5) (T := TX5) (N := 33) rfl (Nat.le_of_ble_eq_true rfl) k_70 (kf_15_25 ad (kh_up ρ 45 0 0 x1.toNatClampNeg ((ρ 45 0 0 x1.toNatClampNeg) - (1 : Int32))) 0) dX5_works_22 ?_
    refine lv_iload_n C.1 C.2.1 dX5_works_25 rfl (kh_at hl 1 rfl) ?_
    refine kh_iald C hw 45 rfl (kh_z45 (kh_up ρ 45 0 0 x1.toNatClampNeg ((ρ 45 0 0 x1.toNatClampNeg) - (1 : Int32)))) kh_kd45 g_5 dX5_works_26 ?_
    refine lv_if_ne (tgt := 48) C.1 C.2.1 dX5_works_27 (by decide) (fun c_7 => ?_) (fun c_7 => ?_)
    · have hF := kh_iff hF c_7
      exact wL48 (kh_up ρ 45 0 0 x1.toNatClampNeg ((ρ 45 0 0 x1.toNatClampNeg) - (1 : Int32))) x1 _ _ _ hF hw hS (kh_sub hl [0, 1] rfl)
    · have hF := kh_ift hF c_7
      refine lv_aload_n C.1 C.2.1 dX5_works_30 rfl (kh_at hl 0 rfl) ?_
      refine kh_get C hw 15 24 rfl (kh_z15 (kh_up ρ 45 0 0 x1.toNatClampNeg ((ρ 45 0 0 x1.toNatClampNeg) - (1 : Int32)))) kh_kd15 (Cn := RX5) (T := TX5) (N := 33) rfl (Nat.le_of_ble_eq_true rfl) k_67 (kf_15_24 ad (kh_up ρ 45 0 0 x1.toNatClampNeg ((ρ 45 0 0 x1.toNatClampNeg) - (1 : Int32))) 0) dX5_works_31 ?_
      refine lv_iload_n C.1 C.2.1 dX5_works_34 rfl (kh_at hl 1 rfl) ?_
      refine kh_iald C hw 44 rfl (kh_z44 (kh_up ρ 45 0 0 x1.toNatClampNeg ((ρ 45 0 0 x1.toNatClampNeg) - (1 : Int32)))) kh_kd44 g_5 dX5_works_35 ?_
      refine lv_iconst (v := (-1 : Int32)) C.1 C.2.1 dX5_works_36 (by decide) ?_
      refine lv_icmp_ne (tgt := 48) C.1 C.2.1 dX5_works_37 (by decide) (fun c_8 => ?_) (fun c_8 => ?_)
      · have hF := kh_iff hF c_8
        exact wL48 (kh_up ρ 45 0 0 x1.toNatClampNeg ((ρ 45 0 0 x1.toNatClampNeg) - (1 : Int32))) x1 _ _ _ hF hw hS (kh_sub hl [0, 1] rfl)
      · have hF := kh_ift hF c_8
        refine lv_aload_n C.1 C.2.1 dX5_works_40 rfl (kh_at hl 0 rfl) ?_
        refine lv_iload_n C.1 C.2.1 dX5_works_41 rfl (kh_at hl 1 rfl) ?_
        obtain ⟨ρ_9, h_9, hF⟩ := kh_bd_ok hF
        refine kh_callv (va_runV (As := [.int x1]) (rest := []) ⟨C.1, C.2.1, C.2.2.1, C.2.2.2.1, C.2.2.2.2.1⟩ (c_X5_isDone l D ca A ad (kh_up ρ 45 0 0 x1.toNatClampNeg ((ρ 45 0 0 x1.toNatClampNeg) - (1 : Int32))) x1 h_9) (cwV 1 C.2.2.2.2.1 gX5_works_X5_isDone rfl rfl rfl (by decide +kernel) ⟨Nat.le_of_ble_eq_true rfl, Nat.le_of_ble_eq_true rfl⟩) (kh_preV C hw hS 15 (kh_z15 (kh_up ρ 45 0 0 x1.toNatClampNeg ((ρ 45 0 0 x1.toNatClampNeg) - (1 : Int32)))) kh_kd15 rfl) rfl rfl hl.1.1 rfl (lv_room (kh_sum kh_an (Nat.le_of_ble_eq_true rfl))) dX5_works_42 ⟨Nat.le_of_ble_eq_true rfl, Nat.le_of_ble_eq_true rfl⟩) hS h_9 (fun H locs hw hS => ?_)
        refine lv_goto (tgt := 86) C.1 C.2.1 dX5_works_45 (by decide) ?_
        exact wL86 ρ_9 _ _ _ hF hw hS (kh_sub hl [] rfl)
  · have hF := kh_ift hF c_6
    exact W.vret C.1 C.2.1 hr (fun t ht hW => ⟨⟨ρ, rfl, hF0.trans hF.symm, kh_bk ht hw⟩, hS.F ht⟩) hS.2.2 dX5_works_10

def f_X5_pass_L189 (ρ_189 : kh_S) : Option (Int32 × kh_S) := some (ρ_189 15 1 0 0, ρ_189)
def f_X5_pass_L183 (x1_c43 : Int32) (ρ_183 : kh_S) (x2_183 : Int32) : Option ((kh_S × Int32) ⊕ (kh_S)) := some (.inl (ρ_183, x2_183 + (1 : Int32)))
def f_X5_pass_L176 (x1_c43 : Int32) (x2_c128 : Int32) (ρ_176 : kh_S) (x3_176 : Int32) (t1_176 : Int32) (t2_176 : Int32) : Option ((kh_S × Int32) ⊕ (kh_S)) := kh_gd (kh_in t1_176 30) (some (.inl (kh_up ρ_176 50 0 0 t1_176.toNatClampNeg t2_176, x3_176 + (1 : Int32))))
def f_X5_pass_L170 (x1_c43 : Int32) (x2_c128 : Int32) (ρ_170 : kh_S) (x3_170 : Int32) (t1_170 : Int32) : Option ((kh_S × Int32) ⊕ (kh_S)) := kh_gd (kh_in x3_170 30) (f_X5_pass_L176 x1_c43 x2_c128 ρ_170 x3_170 t1_170 (ρ_170 50 0 0 x3_170.toNatClampNeg))
def f_X5_pass_B128 (x1_c43 : Int32) (x2_c128 : Int32) (σ_128 : kh_S) (y3_128 : Int32) : Option ((kh_S × Int32) ⊕ (kh_S)) := if (σ_128 15 27 0 0) ≤ y3_128 then some (.inr σ_128) else kh_gd (kh_in y3_128 30) (if (σ_128 50 0 0 y3_128.toNatClampNeg) = 0 then if ((σ_128 15 1 0 0) - (σ_128 49 0 0 y3_128.toNatClampNeg)) < (15 : Int32) then f_X5_pass_L170 x1_c43 x2_c128 σ_128 y3_128 y3_128 else f_X5_pass_L176 x1_c43 x2_c128 σ_128 y3_128 y3_128 (2 : Int32) else f_X5_pass_L170 x1_c43 x2_c128 σ_128 y3_128 y3_128)
def f_X5_pass_A128 (x1_c43 : Int32) (x2_c128 : Int32) : (kh_S) → Option ((kh_S × Int32) ⊕ (kh_S)) := (fun u : kh_S => f_X5_pass_L183 x1_c43 u x2_c128)
def f_X5_pass_L126 (x1_c43 : Int32) (ρ_126 : kh_S) (x2_126 : Int32) : Option ((kh_S × Int32) ⊕ (kh_S)) := kh_bd (kh_lp (fun a : kh_S × Int32 => f_X5_pass_B128 x1_c43 x2_126 a.1 a.2) 9999 (ρ_126, (0 : Int32))) (f_X5_pass_A128 x1_c43 x2_126)
def f_X5_pass_B110 (x1_c43 : Int32) (x2_c110 : Int32) (σ_110 : kh_S) (y3_110 : Int32) : Option ((kh_S × Int32) ⊕ (kh_S)) := if (3 : Int32) ≤ y3_110 then some (.inr σ_110) else kh_bd (f_X5_works σ_110 y3_110) (fun ρ_8 => some (.inl (ρ_8, y3_110 + (1 : Int32))))
def f_X5_pass_A110 (x1_c43 : Int32) (x2_c110 : Int32) : (kh_S) → Option ((kh_S × Int32) ⊕ (kh_S)) := (fun u : kh_S => f_X5_pass_L126 x1_c43 u x2_c110)
def f_X5_pass_L108 (x1_c43 : Int32) (ρ_108 : kh_S) (x2_108 : Int32) : Option ((kh_S × Int32) ⊕ (kh_S)) := kh_bd (kh_lp (fun a : kh_S × Int32 => f_X5_pass_B110 x1_c43 x2_108 a.1 a.2) 9999 (ρ_108, (0 : Int32))) (f_X5_pass_A110 x1_c43 x2_108)
def f_X5_pass_L102 (x1_c43 : Int32) (x2_c60 : Int32) (ρ_102 : kh_S) (x3_102 : Int32) : Option ((kh_S × Int32) ⊕ (kh_S)) := some (.inl (ρ_102, x3_102 + (1 : Int32)))
def f_X5_pass_B60 (x1_c43 : Int32) (x2_c60 : Int32) (σ_60 : kh_S) (y3_60 : Int32) : Option ((kh_S × Int32) ⊕ (kh_S)) := if (σ_60 15 3 0 0) ≤ y3_60 then some (.inr σ_60) else kh_gd (kh_in y3_60 4) (if (σ_60 26 0 0 y3_60.toNatClampNeg) = (1 : Int32) then kh_bd (f_X5_left σ_60 (σ_60 29 0 0 y3_60.toNatClampNeg)) (fun r_12 => if 0 < r_12 then f_X5_pass_L102 x1_c43 x2_c60 σ_60 y3_60 else kh_bd (f_X5_leaves σ_60 (σ_60 29 0 0 y3_60.toNatClampNeg) (2 : Int32)) (fun ρ_14 => f_X5_pass_L102 x1_c43 x2_c60 ρ_14 y3_60)) else f_X5_pass_L102 x1_c43 x2_c60 σ_60 y3_60)
def f_X5_pass_A60 (x1_c43 : Int32) (x2_c60 : Int32) : (kh_S) → Option ((kh_S × Int32) ⊕ (kh_S)) := (fun u : kh_S => f_X5_pass_L108 x1_c43 u x2_c60)
def f_X5_pass_B43 (x1_c43 : Int32) (σ_43 : kh_S) (y2_43 : Int32) : Option ((kh_S × Int32) ⊕ (kh_S)) := if x1_c43 ≤ y2_43 then some (.inr σ_43) else kh_bd (kh_lp (fun a : kh_S × Int32 => f_X5_pass_B60 x1_c43 y2_43 a.1 a.2) 9999 (kh_up σ_43 15 1 0 0 ((σ_43 15 1 0 0) + (1 : Int32)), (0 : Int32))) (f_X5_pass_A60 x1_c43 y2_43)
def f_X5_pass_A43 (x1_c43 : Int32) : (kh_S) → Option (Int32 × kh_S) := (fun u : kh_S => f_X5_pass_L189 u)
def f_X5_pass_L33 (ρ_33 : kh_S) (x1_33 : Int32) (t1_33 : Int32) : Option (Int32 × kh_S) := kh_bd2 (f_X5_refused ρ_33 t1_33) (fun r_16 ρ_16 => if r_16 = 0 then kh_bd (kh_lp (fun a : kh_S × Int32 => f_X5_pass_B43 x1_33 a.1 a.2) 9999 (ρ_16, (0 : Int32))) (f_X5_pass_A43 x1_33) else some ((0 : Int32), ρ_16))
def f_X5_pass (ρ : kh_S) (x1 : Int32) : Option (Int32 × kh_S) := kh_bd (f_X5_in ρ x1 (1 : Int32) (600 : Int32)) (fun r_18 => if r_18 = 0 then f_X5_pass_L33 ρ x1 (1 : Int32) else if ((ρ 15 1 0 0) + x1) ≤ (5000 : Int32) then f_X5_pass_L33 ρ x1 (0 : Int32) else f_X5_pass_L33 ρ x1 (2 : Int32))
set_option maxHeartbeats 4000000 in
set_option maxRecDepth 100000 in
theorem c_X5_pass (l : Launch) (D : va_G) (ca : Nat → ClassId) (A : Nat → Prop) (ad : Nat → Nat → Nat) (ρ : kh_S) (x1 : Int32) {q0 : Int32 × kh_S} (hF0 : f_X5_pass ρ x1 = some q0) : Met l yX5_pass wsX5_pass ({ frames := 3, cells := 0, slots := 0, locals := 71 } : Room) (va_Pc [.ref (ad 15 0), .int x1] (kh_I D ca A ad ρ)) (kh_Qi D ca A ad (f_X5_pass ρ x1)) 0 0 A := by
  refine Met.ofW (cc := cX5_pass) (maxL := 4) (ret := (some .int)) (by decide) rfl ?_
  intro p e s m args below meth c s₁ B hml hv
  obtain ⟨rfl, hK, hw, hA⟩ := hv
  have C : kh_C p s m ([.ref (ad 15 0), .int x1]).toArray c cX5_pass 4 RX5 wsX5_pass D ca A := ⟨B.exec, B.bytes, hml, findClass_of_methodNamed B.named, atoms_spec (ws := wsX5_pass) B.pre, hK, hA⟩
  have hr := B.returns
  have hlocks := B.notSynchronized
  have hS : va_S A s.heap s.heap [] := va_S.rf
  have hl := kh_entry ([.ref (ad 15 0), .int x1]) (n := 4) (kh_ac rfl (kh_ac rfl kh_an)) (Nat.le_of_ble_eq_true rfl)
  rw [lg_entry_eq]
  generalize (lg_sl ([.ref (ad 15 0), .int x1]) ++ List.replicate (4 - (lg_sl ([.ref (ad 15 0), .int x1])).length) Slot.unset).toArray = ls at hl ⊢
  have hl : kh_lv ls 4 [(0, .ref (ad 15 0)), (1, .int x1)] := hl
  have k_141 := C.2.2.2.2.1 (.fieldLink RX5 141 "KeylessHallModel" "minute" "I") (by decide +kernel)
  have k_83 := C.2.2.2.2.1 (.fieldLink RX5 83 "KeylessHallModel" "bookHow" "[I") (by decide +kernel)
  have k_106 := C.2.2.2.2.1 (.fieldLink RX5 106 "KeylessHallModel" "bookings" "I") (by decide +kernel)
  have k_80 := C.2.2.2.2.1 (.fieldLink RX5 80 "KeylessHallModel" "bookMinute" "[I") (by decide +kernel)
  have k_96 := C.2.2.2.2.1 (.fieldLink RX5 96 "KeylessHallModel" "rooms" "I") (by decide +kernel)
  have k_16 := C.2.2.2.2.1 (.fieldLink RX5 16 "KeylessHallModel" "state" "[I") (by decide +kernel)
  have k_25 := C.2.2.2.2.1 (.fieldLink RX5 25 "KeylessHallModel" "groupIn" "[I") (by decide +kernel)
  have hF := hF0
  unfold f_X5_pass at hF
  have wL189 : ∀ (ρ_189 : kh_S) (H : Heap) (locs : List Loc) (ls : Array Slot), f_X5_pass_L189 ρ_189 = some q0 → kh_w D ca A ad ρ_189 H → va_S A s.heap H locs → kh_lv ls 4 [(0, .ref (ad 15 0))] → W p l e (headSpec wsX5_pass ({ frames := 3, cells := 0, slots := 0, locals := 71 } : Room)).room s m ([.ref (ad 15 0), .int x1]).toArray below meth c H locs 0 0 (MQ below (kh_Qi D ca A ad (f_X5_pass ρ x1)) ([.ref (ad 15 0), .int x1]).toArray s 0 0 A) (F0 m 189 ls []) := by
    intro ρ_189 H locs ls hF hw hS hl
    unfold f_X5_pass_L189 at hF
    refine lv_aload_n C.1 C.2.1 dX5_pass_189 rfl (kh_at hl 0 rfl) ?_
    refine kh_get C hw 15 1 rfl (kh_z15 ρ_189) kh_kd15 (Cn := RX5) (T := TX5) (N := 33) rfl (Nat.le_of_ble_eq_true rfl) k_141 (kf_15_1 ad ρ_189 0) dX5_pass_190 ?_
    exact W.iret (v := ρ_189 15 1 0 0) C.1 C.2.1 hr (fun t ht hW => ⟨⟨ρ_189 15 1 0 0, ρ_189, rfl, hF0.trans hF.symm, kh_bk ht hw⟩, hS.F ht⟩) hS.2.2 dX5_pass_193
  have wB43 : ∀ (x1_c43 : Int32) (b : kh_S), f_X5_pass_A43 x1_c43 b = some q0 → ∀ (n : Nat) (σ_43 : kh_S) (y2_43 : Int32) (H : Heap) (locs : List Loc) (ls : Array Slot), kh_lp (fun a : kh_S × Int32 => f_X5_pass_B43 x1_c43 a.1 a.2) n (σ_43, y2_43) = some b → kh_w D ca A ad σ_43 H → va_S A s.heap H locs → kh_lv ls 4 [(0, .ref (ad 15 0)), (1, .int x1_c43), (2, .int y2_43)] → W p l e (headSpec wsX5_pass ({ frames := 3, cells := 0, slots := 0, locals := 71 } : Room)).room s m ([.ref (ad 15 0), .int x1]).toArray below meth c H locs 0 0 (MQ below (kh_Qi D ca A ad (f_X5_pass ρ x1)) ([.ref (ad 15 0), .int x1]).toArray s 0 0 A) (F0 m 43 ls []) := by
    intro x1_c43 b hA_43 n
    induction n with
    | zero => intro σ_43 y2_43 H locs ls h9; exact absurd h9 (fun z => nomatch z)
    | succ n ih_43 =>
      intro σ_43 y2_43 H locs ls hb_43 hw hS hl
      obtain ⟨q_43, hF, hb_43⟩ := kh_lp_ok hb_43
      have hF : f_X5_pass_B43 x1_c43 σ_43 y2_43 = some q_43 := hF
      have wL183 : ∀ (ρ_183 : kh_S) (x2_183 : Int32) (H : Heap) (locs : List Loc) (ls : Array Slot), f_X5_pass_L183 x1_c43 ρ_183 x2_183 = some q_43 → kh_w D ca A ad ρ_183 H → va_S A s.heap H locs → kh_lv ls 4 [(0, .ref (ad 15 0)), (1, .int x1_c43), (2, .int x2_183)] → W p l e (headSpec wsX5_pass ({ frames := 3, cells := 0, slots := 0, locals := 71 } : Room)).room s m ([.ref (ad 15 0), .int x1]).toArray below meth c H locs 0 0 (MQ below (kh_Qi D ca A ad (f_X5_pass ρ x1)) ([.ref (ad 15 0), .int x1]).toArray s 0 0 A) (F0 m 183 ls []) := by
        intro ρ_183 x2_183 H locs ls hF hw hS hl
        unfold f_X5_pass_L183 at hF
        refine kh_iinc (v := x2_183 + (1 : Int32)) (lv' := [(2, .int (x2_183 + (1 : Int32))), (0, .ref (ad 15 0)), (1, .int x1_c43)]) C.1 C.2.1 dX5_pass_183 hl (k := 2) rfl (by rfl) (by decide) rfl (fun ls hl => ?_)
        refine lv_goto (tgt := 43) C.1 C.2.1 dX5_pass_186 (by decide) ?_
        have e9 := Option.some.inj hF
        rcases hb_43 with ⟨a9, h8, h9⟩ | h8
        · have h7 := Sum.inl.inj (e9.trans h8)
          subst h7
          exact ih_43 _ _ _ _ _ h9 hw hS (kh_sub hl [1, 2, 0] rfl)
        · exact absurd (e9.trans h8) (fun z => nomatch z)
      have wB128 : ∀ (x2_c128 : Int32) (b : kh_S), f_X5_pass_A128 x1_c43 x2_c128 b = some q_43 → ∀ (n : Nat) (σ_128 : kh_S) (y3_128 : Int32) (H : Heap) (locs : List Loc) (ls : Array Slot), kh_lp (fun a : kh_S × Int32 => f_X5_pass_B128 x1_c43 x2_c128 a.1 a.2) n (σ_128, y3_128) = some b → kh_w D ca A ad σ_128 H → va_S A s.heap H locs → kh_lv ls 4 [(0, .ref (ad 15 0)), (1, .int x1_c43), (2, .int x2_c128), (3, .int y3_128)] → W p l e (headSpec wsX5_pass ({ frames := 3, cells := 0, slots := 0, locals := 71 } : Room)).room s m ([.ref (ad 15 0), .int x1]).toArray below meth c H locs 0 0 (MQ below (kh_Qi D ca A ad (f_X5_pass ρ x1)) ([.ref (ad 15 0), .int x1]).toArray s 0 0 A) (F0 m 128 ls []) := by
        intro x2_c128 b hA_128 n
        induction n with
        | zero => intro σ_128 y3_128 H locs ls h9; exact absurd h9 (fun z => nomatch z)
        | succ n ih_128 =>
          intro σ_128 y3_128 H locs ls hb_128 hw hS hl
          obtain ⟨q_128, hF, hb_128⟩ := kh_lp_ok hb_128
          have hF : f_X5_pass_B128 x1_c43 x2_c128 σ_128 y3_128 = some q_128 := hF
          have wL176 : ∀ (ρ_176 : kh_S) (x3_176 : Int32) (t1_176 : Int32) (t2_176 : Int32) (H : Heap) (locs : List Loc) (ls : Array Slot), f_X5_pass_L176 x1_c43 x2_c128 ρ_176 x3_176 t1_176 t2_176 = some q_128 → kh_w D ca A ad ρ_176 H → va_S A s.heap H locs → kh_lv ls 4 [(0, .ref (ad 15 0)), (1, .int x1_c43), (2, .int x2_c128), (3, .int x3_176)] → W p l e (headSpec wsX5_pass ({ frames := 3, cells := 0, slots := 0, locals := 71 } : Room)).room s m ([.ref (ad 15 0), .int x1]).toArray below meth c H locs 0 0 (MQ below (kh_Qi D ca A ad (f_X5_pass ρ x1)) ([.ref (ad 15 0), .int x1]).toArray s 0 0 A) (F0 m 176 ls [.int t2_176, .int t1_176, .ref (ad 50 0)]) := by
            intro ρ_176 x3_176 t1_176 t2_176 H locs ls hF hw hS hl
            unfold f_X5_pass_L176 at hF
            obtain ⟨g_1, hF⟩ := kh_gd_ok hF
            refine kh_iast C hw hS 50 rfl (kh_z50 ρ_176) (by decide) kh_kd50 g_1 dX5_pass_176 (fun H locs hw hS => ?_)
            refine kh_iinc (v := x3_176 + (1 : Int32)) (lv' := [(3, .int (x3_176 + (1 : Int32))), (0, .ref (ad 15 0)), (1, .int x1_c43), (2, .int x2_c128)]) C.1 C.2.1 dX5_pass_177 hl (k := 3) rfl (by rfl) (by decide) rfl (fun ls hl => ?_)
            refine lv_goto (tgt := 128) C.1 C.2.1 dX5_pass_180 (by decide) ?_
            have e9 := Option.some.inj hF
            rcases hb_128 with ⟨a9, h8, h9⟩ | h8
            · have h7 := Sum.inl.inj (e9.trans h8)
              subst h7
              exact ih_128 _ _ _ _ _ h9 hw hS (kh_sub hl [1, 2, 3, 0] rfl)
            · exact absurd (e9.trans h8) (fun z => nomatch z)
          have wL170 : ∀ (ρ_170 : kh_S) (x3_170 : Int32) (t1_170 : Int32) (H : Heap) (locs : List Loc) (ls : Array Slot), f_X5_pass_L170 x1_c43 x2_c128 ρ_170 x3_170 t1_170 = some q_128 → kh_w D ca A ad ρ_170 H → va_S A s.heap H locs → kh_lv ls 4 [(0, .ref (ad 15 0)), (1, .int x1_c43), (2, .int x2_c128), (3, .int x3_170)] → W p l e (headSpec wsX5_pass ({ frames := 3, cells := 0, slots := 0, locals := 71 } : Room)).room s m ([.ref (ad 15 0), .int x1]).toArray below meth c H locs 0 0 (MQ below (kh_Qi D ca A ad (f_X5_pass ρ x1)) ([.ref (ad 15 0), .int x1]).toArray s 0 0 A) (F0 m 170 ls [.int t1_170, .ref (ad 50 0)]) := by
            intro ρ_170 x3_170 t1_170 H locs ls hF hw hS hl
            unfold f_X5_pass_L170 at hF
            refine lv_aload_n C.1 C.2.1 dX5_pass_170 rfl (kh_at hl 0 rfl) ?_
            refine kh_get C hw 15 30 rfl (kh_z15 ρ_170) kh_kd15 (Cn := RX5) (T := TX5) (N := 33) rfl (Nat.le_of_ble_eq_true rfl) k_83 (kf_15_30 ad ρ_170 0) dX5_pass_171 ?_
            refine lv_iload_n C.1 C.2.1 dX5_pass_174 rfl (kh_at hl 3 rfl) ?_
            obtain ⟨g_2, hF⟩ := kh_gd_ok hF
            refine kh_iald C hw 50 rfl (kh_z50 ρ_170) kh_kd50 g_2 dX5_pass_175 ?_
            exact wL176 ρ_170 x3_170 t1_170 (ρ_170 50 0 0 x3_170.toNatClampNeg) _ _ _ hF hw hS (kh_sub hl [0, 1, 2, 3] rfl)
          unfold f_X5_pass_B128 at hF
          refine lv_iload_n C.1 C.2.1 dX5_pass_128 rfl (kh_at hl 3 rfl) ?_
          refine lv_aload_n C.1 C.2.1 dX5_pass_129 rfl (kh_at hl 0 rfl) ?_
          refine kh_get C hw 15 27 rfl (kh_z15 σ_128) kh_kd15 (Cn := RX5) (T := TX5) (N := 33) rfl (Nat.le_of_ble_eq_true rfl) k_106 (kf_15_27 ad σ_128 0) dX5_pass_130 ?_
          refine lv_icmp_ge (tgt := 183) C.1 C.2.1 dX5_pass_133 (by decide) (fun c_3 => ?_) (fun c_3 => ?_)
          · have hF := kh_ift hF c_3
            have e9 := Option.some.inj hF
            rcases hb_128 with ⟨a9, h8, h9⟩ | h8
            · exact absurd (e9.trans h8) (fun z => nomatch z)
            have h7 := Sum.inr.inj (e9.trans h8)
            have hF := (congrArg (f_X5_pass_A128 x1_c43 x2_c128) h7).trans hA_128
            exact wL183 σ_128 x2_c128 _ _ _ hF hw hS (kh_sub hl [0, 1, 2] rfl)
          · have hF := kh_iff hF c_3
            refine lv_aload_n C.1 C.2.1 dX5_pass_136 rfl (kh_at hl 0 rfl) ?_
            refine kh_get C hw 15 30 rfl (kh_z15 σ_128) kh_kd15 (Cn := RX5) (T := TX5) (N := 33) rfl (Nat.le_of_ble_eq_true rfl) k_83 (kf_15_30 ad σ_128 0) dX5_pass_137 ?_
            refine lv_iload_n C.1 C.2.1 dX5_pass_140 rfl (kh_at hl 3 rfl) ?_
            refine lv_aload_n C.1 C.2.1 dX5_pass_141 rfl (kh_at hl 0 rfl) ?_
            refine kh_get C hw 15 30 rfl (kh_z15 σ_128) kh_kd15 (Cn := RX5) (T := TX5) (N := 33) rfl (Nat.le_of_ble_eq_true rfl) k_83 (kf_15_30 ad σ_128 0) dX5_pass_142 ?_
            refine lv_iload_n C.1 C.2.1 dX5_pass_145 rfl (kh_at hl 3 rfl) ?_
            obtain ⟨g_4, hF⟩ := kh_gd_ok hF
            refine kh_iald C hw 50 rfl (kh_z50 σ_128) kh_kd50 g_4 dX5_pass_146 ?_
            refine lv_if_ne (tgt := 170) C.1 C.2.1 dX5_pass_147 (by decide) (fun c_5 => ?_) (fun c_5 => ?_)
            · have hF := kh_iff hF c_5
              exact wL170 σ_128 y3_128 y3_128 _ _ _ hF hw hS (kh_sub hl [0, 1, 2, 3] rfl)
            · have hF := kh_ift hF c_5
              refine lv_aload_n C.1 C.2.1 dX5_pass_150 rfl (kh_at hl 0 rfl) ?_
              refine kh_get C hw 15 1 rfl (kh_z15 σ_128) kh_kd15 (Cn := RX5) (T := TX5) (N := 33) rfl (Nat.le_of_ble_eq_true rfl) k_141 (kf_15_1 ad σ_128 0) dX5_pass_151 ?_
              refine lv_aload_n C.1 C.2.1 dX5_pass_154 rfl (kh_at hl 0 rfl) ?_
              refine kh_get C hw 15 29 rfl (kh_z15 σ_128) kh_kd15 (Cn := RX5) (T := TX5) (N := 33) rfl (Nat.le_of_ble_eq_true rfl) k_80 (kf_15_29 ad σ_128 0) dX5_pass_155 ?_
              refine lv_iload_n C.1 C.2.1 dX5_pass_158 rfl (kh_at hl 3 rfl) ?_
              refine kh_iald C hw 49 rfl (kh_z49 σ_128) kh_kd49 g_4 dX5_pass_159 ?_
              refine lv_isub C.1 C.2.1 dX5_pass_160 ?_
              refine lv_bipush (v := (15 : Int32)) C.1 C.2.1 dX5_pass_161 (by decide) ?_
              refine lv_icmp_lt (tgt := 170) C.1 C.2.1 dX5_pass_163 (by decide) (fun c_6 => ?_) (fun c_6 => ?_)
              · have hF := kh_ift hF c_6
                exact wL170 σ_128 y3_128 y3_128 _ _ _ hF hw hS (kh_sub hl [0, 1, 2, 3] rfl)
              · have hF := kh_iff hF c_6
                refine lv_iconst (v := (2 : Int32)) C.1 C.2.1 dX5_pass_166 (by decide) ?_
                refine lv_goto (tgt := 176) C.1 C.2.1 dX5_pass_167 (by decide) ?_
                exact wL176 σ_128 y3_128 y3_128 (2 : Int32) _ _ _ hF hw hS (kh_sub hl [0, 1, 2, 3] rfl)
      have wL126 : ∀ (ρ_126 : kh_S) (x2_126 : Int32) (H : Heap) (locs : List Loc) (ls : Array Slot), f_X5_pass_L126 x1_c43 ρ_126 x2_126 = some q_43 → kh_w D ca A ad ρ_126 H → va_S A s.heap H locs → kh_lv ls 4 [(0, .ref (ad 15 0)), (1, .int x1_c43), (2, .int x2_126)] → W p l e (headSpec wsX5_pass ({ frames := 3, cells := 0, slots := 0, locals := 71 } : Room)).room s m ([.ref (ad 15 0), .int x1]).toArray below meth c H locs 0 0 (MQ below (kh_Qi D ca A ad (f_X5_pass ρ x1)) ([.ref (ad 15 0), .int x1]).toArray s 0 0 A) (F0 m 126 ls []) := by
        intro ρ_126 x2_126 H locs ls hF hw hS hl
        unfold f_X5_pass_L126 at hF
        refine lv_iconst (v := (0 : Int32)) C.1 C.2.1 dX5_pass_126 (by decide) ?_
        refine kh_istore_n (lv' := [(3, .int (0 : Int32)), (0, .ref (ad 15 0)), (1, .int x1_c43), (2, .int x2_126)]) C.1 C.2.1 dX5_pass_127 rfl hl (by decide) rfl (fun ls hl => ?_)
        obtain ⟨b_128, hb_128, hF⟩ := kh_bd_ok hF
        exact wB128 x2_126 b_128 hF _ ρ_126 (0 : Int32) _ _ _ hb_128 hw hS (kh_sub hl [1, 2, 3, 0] rfl)
      have wB110 : ∀ (x2_c110 : Int32) (b : kh_S), f_X5_pass_A110 x1_c43 x2_c110 b = some q_43 → ∀ (n : Nat) (σ_110 : kh_S) (y3_110 : Int32) (H : Heap) (locs : List Loc) (ls : Array Slot), kh_lp (fun a : kh_S × Int32 => f_X5_pass_B110 x1_c43 x2_c110 a.1 a.2) n (σ_110, y3_110) = some b → kh_w D ca A ad σ_110 H → va_S A s.heap H locs → kh_lv ls 4 [(0, .ref (ad 15 0)), (1, .int x1_c43), (2, .int x2_c110), (3, .int y3_110)] → W p l e (headSpec wsX5_pass ({ frames := 3, cells := 0, slots := 0, locals := 71 } : Room)).room s m ([.ref (ad 15 0), .int x1]).toArray below meth c H locs 0 0 (MQ below (kh_Qi D ca A ad (f_X5_pass ρ x1)) ([.ref (ad 15 0), .int x1]).toArray s 0 0 A) (F0 m 110 ls []) := by
        intro x2_c110 b hA_110 n
        induction n with
        | zero => intro σ_110 y3_110 H locs ls h9; exact absurd h9 (fun z => nomatch z)
        | succ n ih_110 =>
          intro σ_110 y3_110 H locs ls hb_110 hw hS hl
          obtain ⟨q_110, hF, hb_110⟩ := kh_lp_ok hb_110
          have hF : f_X5_pass_B110 x1_c43 x2_c110 σ_110 y3_110 = some q_110 := hF
          unfold f_X5_pass_B110 at hF
          refine lv_iload_n C.1 C.2.1 dX5_pass_110 rfl (kh_at hl 3 rfl) ?_
          refine lv_iconst (v := (3 : Int32)) C.1 C.2.1 dX5_pass_111 (by decide) ?_
          refine lv_icmp_ge (tgt := 126) C.1 C.2.1 dX5_pass_112 (by decide) (fun c_7 => ?_) (fun c_7 => ?_)
          · have hF := kh_ift hF c_7
            have e9 := Option.some.inj hF
            rcases hb_110 with ⟨a9, h8, h9⟩ | h8
            · exact absurd (e9.trans h8) (fun z => nomatch z)
            have h7 := Sum.inr.inj (e9.trans h8)
            have hF := (congrArg (f_X5_pass_A110 x1_c43 x2_c110) h7).trans hA_110
            exact wL126 σ_110 x2_c110 _ _ _ hF hw hS (kh_sub hl [0, 1, 2] rfl)
          · have hF := kh_iff hF c_7
            refine lv_aload_n C.1 C.2.1 dX5_pass_115 rfl (kh_at hl 0 rfl) ?_
            refine lv_iload_n C.1 C.2.1 dX5_pass_116 rfl (kh_at hl 3 rfl) ?_
            obtain ⟨ρ_8, h_8, hF⟩ := kh_bd_ok hF
            refine kh_callv (va_runV (As := [.int y3_110]) (rest := []) ⟨C.1, C.2.1, C.2.2.1, C.2.2.2.1, C.2.2.2.2.1⟩ (c_X5_works l D ca A ad σ_110 y3_110 h_8) (cwV 1 C.2.2.2.2.1 gX5_pass_X5_works rfl rfl rfl (by decide +kernel) ⟨Nat.le_of_ble_eq_true rfl, Nat.le_of_ble_eq_true rfl⟩) (kh_preV C hw hS 15 (kh_z15 σ_110) kh_kd15 rfl) rfl rfl hl.1.1 rfl (lv_room (kh_sum kh_an (Nat.le_of_ble_eq_true rfl))) dX5_pass_117 ⟨Nat.le_of_ble_eq_true rfl, Nat.le_of_ble_eq_true rfl⟩) hS h_8 (fun H locs hw hS => ?_)
            refine kh_iinc (v := y3_110 + (1 : Int32)) (lv' := [(3, .int (y3_110 + (1 : Int32))), (0, .ref (ad 15 0)), (1, .int x1_c43), (2, .int x2_c110)]) C.1 C.2.1 dX5_pass_120 hl (k := 3) rfl (by rfl) (by decide) rfl (fun ls hl => ?_)
            refine lv_goto (tgt := 110) C.1 C.2.1 dX5_pass_123 (by decide) ?_
            have e9 := Option.some.inj hF
            rcases hb_110 with ⟨a9, h8, h9⟩ | h8
            · have h7 := Sum.inl.inj (e9.trans h8)
              subst h7
              exact ih_110 _ _ _ _ _ h9 hw hS (kh_sub hl [1, 2, 3, 0] rfl)
            · exact absurd (e9.trans h8) (fun z => nomatch z)
      have wL108 : ∀ (ρ_108 : kh_S) (x2_108 : Int32) (H : Heap) (locs : List Loc) (ls : Array Slot), f_X5_pass_L108 x1_c43 ρ_108 x2_108 = some q_43 → kh_w D ca A ad ρ_108 H → va_S A s.heap H locs → kh_lv ls 4 [(0, .ref (ad 15 0)), (1, .int x1_c43), (2, .int x2_108)] → W p l e (headSpec wsX5_pass ({ frames := 3, cells := 0, slots := 0, locals := 71 } : Room)).room s m ([.ref (ad 15 0), .int x1]).toArray below meth c H locs 0 0 (MQ below (kh_Qi D ca A ad (f_X5_pass ρ x1)) ([.ref (ad 15 0), .int x1]).toArray s 0 0 A) (F0 m 108 ls []) := by
        intro ρ_108 x2_108 H locs ls hF hw hS hl
        unfold f_X5_pass_L108 at hF
        refine lv_iconst (v := (0 : Int32)) C.1 C.2.1 dX5_pass_108 (by decide) ?_
        refine kh_istore_n (lv' := [(3, .int (0 : Int32)), (0, .ref (ad 15 0)), (1, .int x1_c43), (2, .int x2_108)]) C.1 C.2.1 dX5_pass_109 rfl hl (by decide) rfl (fun ls hl => ?_)
        obtain ⟨b_110, hb_110, hF⟩ := kh_bd_ok hF
        exact wB110 x2_108 b_110 hF _ ρ_108 (0 : Int32) _ _ _ hb_110 hw hS (kh_sub hl [1, 2, 3, 0] rfl)
      have wB60 : ∀ (x2_c60 : Int32) (b : kh_S), f_X5_pass_A60 x1_c43 x2_c60 b = some q_43 → ∀ (n : Nat) (σ_60 : kh_S) (y3_60 : Int32) (H : Heap) (locs : List Loc) (ls : Array Slot), kh_lp (fun a : kh_S × Int32 => f_X5_pass_B60 x1_c43 x2_c60 a.1 a.2) n (σ_60, y3_60) = some b → kh_w D ca A ad σ_60 H → va_S A s.heap H locs → kh_lv ls 4 [(0, .ref (ad 15 0)), (1, .int x1_c43), (2, .int x2_c60), (3, .int y3_60)] → W p l e (headSpec wsX5_pass ({ frames := 3, cells := 0, slots := 0, locals := 71 } : Room)).room s m ([.ref (ad 15 0), .int x1]).toArray below meth c H locs 0 0 (MQ below (kh_Qi D ca A ad (f_X5_pass ρ x1)) ([.ref (ad 15 0), .int x1]).toArray s 0 0 A) (F0 m 60 ls []) := by
        intro x2_c60 b hA_60 n
        induction n with
        | zero => intro σ_60 y3_60 H locs ls h9; exact absurd h9 (fun z => nomatch z)
        | succ n ih_60 =>
          intro σ_60 y3_60 H locs ls hb_60 hw hS hl
          obtain ⟨q_60, hF, hb_60⟩ := kh_lp_ok hb_60
          have hF : f_X5_pass_B60 x1_c43 x2_c60 σ_60 y3_60 = some q_60 := hF
          have wL102 : ∀ (ρ_102 : kh_S) (x3_102 : Int32) (H : Heap) (locs : List Loc) (ls : Array Slot), f_X5_pass_L102 x1_c43 x2_c60 ρ_102 x3_102 = some q_60 → kh_w D ca A ad ρ_102 H → va_S A s.heap H locs → kh_lv ls 4 [(0, .ref (ad 15 0)), (1, .int x1_c43), (2, .int x2_c60), (3, .int x3_102)] → W p l e (headSpec wsX5_pass ({ frames := 3, cells := 0, slots := 0, locals := 71 } : Room)).room s m ([.ref (ad 15 0), .int x1]).toArray below meth c H locs 0 0 (MQ below (kh_Qi D ca A ad (f_X5_pass ρ x1)) ([.ref (ad 15 0), .int x1]).toArray s 0 0 A) (F0 m 102 ls []) := by
            intro ρ_102 x3_102 H locs ls hF hw hS hl
            unfold f_X5_pass_L102 at hF
            refine kh_iinc (v := x3_102 + (1 : Int32)) (lv' := [(3, .int (x3_102 + (1 : Int32))), (0, .ref (ad 15 0)), (1, .int x1_c43), (2, .int x2_c60)]) C.1 C.2.1 dX5_pass_102 hl (k := 3) rfl (by rfl) (by decide) rfl (fun ls hl => ?_)
            refine lv_goto (tgt := 60) C.1 C.2.1 dX5_pass_105 (by decide) ?_
            have e9 := Option.some.inj hF
            rcases hb_60 with ⟨a9, h8, h9⟩ | h8
            · have h7 := Sum.inl.inj (e9.trans h8)
              subst h7
              exact ih_60 _ _ _ _ _ h9 hw hS (kh_sub hl [1, 2, 3, 0] rfl)
            · exact absurd (e9.trans h8) (fun z => nomatch z)
          unfold f_X5_pass_B60 at hF
          refine lv_iload_n C.1 C.2.1 dX5_pass_60 rfl (kh_at hl 3 rfl) ?_
          refine lv_aload_n C.1 C.2.1 dX5_pass_61 rfl (kh_at hl 0 rfl) ?_
          refine kh_get C hw 15 3 rfl (kh_z15 σ_60) kh_kd15 (Cn := RX5) (T := TX5) (N := 33) rfl (Nat.le_of_ble_eq_true rfl) k_96 (kf_15_3 ad σ_60 0) dX5_pass_62 ?_
          refine lv_icmp_ge (tgt := 108) C.1 C.2.1 dX5_pass_65 (by decide) (fun c_9 => ?_) (fun c_9 => ?_)
          · have hF := kh_ift hF c_9
            have e9 := Option.some.inj hF
            rcases hb_60 with ⟨a9, h8, h9⟩ | h8
            · exact absurd (e9.trans h8) (fun z => nomatch z)
            have h7 := Sum.inr.inj (e9.trans h8)
            have hF := (congrArg (f_X5_pass_A60 x1_c43 x2_c60) h7).trans hA_60
            exact wL108 σ_60 x2_c60 _ _ _ hF hw hS (kh_sub hl [0, 1, 2] rfl)
          · have hF := kh_iff hF c_9
            refine lv_aload_n C.1 C.2.1 dX5_pass_68 rfl (kh_at hl 0 rfl) ?_
            refine kh_get C hw 15 6 rfl (kh_z15 σ_60) kh_kd15 (Cn := RX5) (T := TX5) (N := 33) rfl (Nat.le_of_ble_eq_true rfl) k_16 (kf_15_6 ad σ_60 0) dX5_pass_69 ?_
            refine lv_iload_n C.1 C.2.1 dX5_pass_72 rfl (kh_at hl 3 rfl) ?_
            obtain ⟨g_10, hF⟩ := kh_gd_ok hF
            refine kh_iald C hw 26 rfl (kh_z26 σ_60) kh_kd26 g_10 dX5_pass_73 ?_
            refine lv_iconst (v := (1 : Int32)) C.1 C.2.1 dX5_pass_74 (by decide) ?_
            refine lv_icmp_ne (tgt := 102) C.1 C.2.1 dX5_pass_75 (by decide) (fun c_11 => ?_) (fun c_11 => ?_)
            · have hF := kh_iff hF c_11
              exact wL102 σ_60 y3_60 _ _ _ hF hw hS (kh_sub hl [0, 1, 2, 3] rfl)
            · have hF := kh_ift hF c_11
              refine lv_aload_n C.1 C.2.1 dX5_pass_78 rfl (kh_at hl 0 rfl) ?_
              refine lv_aload_n C.1 C.2.1 dX5_pass_79 rfl (kh_at hl 0 rfl) ?_
              refine kh_get C hw 15 9 rfl (kh_z15 σ_60) kh_kd15 (Cn := RX5) (T := TX5) (N := 33) rfl (Nat.le_of_ble_eq_true rfl) k_25 (kf_15_9 ad σ_60 0) dX5_pass_80 ?_
              refine lv_iload_n C.1 C.2.1 dX5_pass_83 rfl (kh_at hl 3 rfl) ?_
              refine kh_iald C hw 29 rfl (kh_z29 σ_60) kh_kd29 g_10 dX5_pass_84 ?_
              obtain ⟨r_12, h_12, hF⟩ := kh_bd_ok hF
              refine kh_calli (va_runV (As := [.int (σ_60 29 0 0 y3_60.toNatClampNeg)]) (rest := []) ⟨C.1, C.2.1, C.2.2.1, C.2.2.2.1, C.2.2.2.2.1⟩ (c_X5_left l D ca A ad σ_60 (σ_60 29 0 0 y3_60.toNatClampNeg) h_12) (cwV 1 C.2.2.2.2.1 gX5_pass_X5_left rfl rfl rfl (by decide +kernel) ⟨Nat.le_of_ble_eq_true rfl, Nat.le_of_ble_eq_true rfl⟩) (kh_preV C hw hS 15 (kh_z15 σ_60) kh_kd15 rfl) rfl rfl hl.1.1 rfl (lv_room (kh_sum kh_an (Nat.le_of_ble_eq_true rfl))) dX5_pass_85 ⟨Nat.le_of_ble_eq_true rfl, Nat.le_of_ble_eq_true rfl⟩) hS (kh_mp h_12) (fun H locs hw hS => ?_)
              refine lv_if_gt (tgt := 102) C.1 C.2.1 dX5_pass_88 (by decide) (fun c_13 => ?_) (fun c_13 => ?_)
              · have hF := kh_ift hF c_13
                exact wL102 σ_60 y3_60 _ _ _ hF hw hS (kh_sub hl [0, 1, 2, 3] rfl)
              · have hF := kh_iff hF c_13
                refine lv_aload_n C.1 C.2.1 dX5_pass_91 rfl (kh_at hl 0 rfl) ?_
                refine lv_aload_n C.1 C.2.1 dX5_pass_92 rfl (kh_at hl 0 rfl) ?_
                refine kh_get C hw 15 9 rfl (kh_z15 σ_60) kh_kd15 (Cn := RX5) (T := TX5) (N := 33) rfl (Nat.le_of_ble_eq_true rfl) k_25 (kf_15_9 ad σ_60 0) dX5_pass_93 ?_
                refine lv_iload_n C.1 C.2.1 dX5_pass_96 rfl (kh_at hl 3 rfl) ?_
                refine kh_iald C hw 29 rfl (kh_z29 σ_60) kh_kd29 g_10 dX5_pass_97 ?_
                refine lv_iconst (v := (2 : Int32)) C.1 C.2.1 dX5_pass_98 (by decide) ?_
                obtain ⟨ρ_14, h_14, hF⟩ := kh_bd_ok hF
                refine kh_callv (va_runV (As := [.int (σ_60 29 0 0 y3_60.toNatClampNeg), .int (2 : Int32)]) (rest := []) ⟨C.1, C.2.1, C.2.2.1, C.2.2.2.1, C.2.2.2.2.1⟩ (c_X5_leaves l D ca A ad σ_60 (σ_60 29 0 0 y3_60.toNatClampNeg) (2 : Int32) h_14) (cwV 2 C.2.2.2.2.1 gX5_pass_X5_leaves rfl rfl rfl (by decide +kernel) ⟨Nat.le_of_ble_eq_true rfl, Nat.le_of_ble_eq_true rfl⟩) (kh_preV C hw hS 15 (kh_z15 σ_60) kh_kd15 rfl) rfl rfl hl.1.1 rfl (lv_room (kh_sum kh_an (Nat.le_of_ble_eq_true rfl))) dX5_pass_99 ⟨Nat.le_of_ble_eq_true rfl, Nat.le_of_ble_eq_true rfl⟩) hS h_14 (fun H locs hw hS => ?_)
                exact wL102 ρ_14 y3_60 _ _ _ hF hw hS (kh_sub hl [0, 1, 2, 3] rfl)
      unfold f_X5_pass_B43 at hF
      refine lv_iload_n C.1 C.2.1 dX5_pass_43 rfl (kh_at hl 2 rfl) ?_
      refine lv_iload_n C.1 C.2.1 dX5_pass_44 rfl (kh_at hl 1 rfl) ?_
      refine lv_icmp_ge (tgt := 189) C.1 C.2.1 dX5_pass_45 (by decide) (fun c_15 => ?_) (fun c_15 => ?_)
      · have hF := kh_ift hF c_15
        have e9 := Option.some.inj hF
        rcases hb_43 with ⟨a9, h8, h9⟩ | h8
        · exact absurd (e9.trans h8) (fun z => nomatch z)
        have h7 := Sum.inr.inj (e9.trans h8)
        have hF := (congrArg (f_X5_pass_A43 x1_c43) h7).trans hA_43
        exact wL189 σ_43 _ _ _ hF hw hS (kh_sub hl [0] rfl)
      · have hF := kh_iff hF c_15
        refine lv_aload_n C.1 C.2.1 dX5_pass_48 rfl (kh_at hl 0 rfl) ?_
        refine lv_dup C.1 C.2.1 dX5_pass_49 rfl ?_
        refine kh_get C hw 15 1 rfl (kh_z15 σ_43) kh_kd15 (Cn := RX5) (T := TX5) (N := 33) rfl (Nat.le_of_ble_eq_true rfl) k_141 (kf_15_1 ad σ_43 0) dX5_pass_50 ?_
        refine lv_iconst (v := (1 : Int32)) C.1 C.2.1 dX5_pass_53 (by decide) ?_
        refine lv_iadd C.1 C.2.1 dX5_pass_54 ?_
        refine kh_putI C hw hS 15 1 rfl (kh_z15 σ_43) kh_kd15 (by decide) (Cn := RX5) (T := TX5) (N := 33) rfl (Nat.le_of_ble_eq_true rfl) (kq_15_1) k_141 rfl (by decide +kernel) dX5_pass_55 (fun H locs hw hS => ?_)
        refine lv_iconst (v := (0 : Int32)) C.1 C.2.1 dX5_pass_58 (by decide) ?_
        refine kh_istore_n (lv' := [(3, .int (0 : Int32)), (0, .ref (ad 15 0)), (1, .int x1_c43), (2, .int y2_43)]) C.1 C.2.1 dX5_pass_59 rfl hl (by decide) rfl (fun ls hl => ?_)
        obtain ⟨b_60, hb_60, hF⟩ := kh_bd_ok hF
        exact wB60 y2_43 b_60 hF _ (kh_up σ_43 15 1 0 0 ((σ_43 15 1 0 0) + (1 : Int32))) (0 : Int32) _ _ _ hb_60 hw hS (kh_sub hl [1, 2, 3, 0] rfl)
  have wL33 : ∀ (ρ_33 : kh_S) (x1_33 : Int32) (t1_33 : Int32) (H : Heap) (locs : List Loc) (ls : Array Slot), f_X5_pass_L33 ρ_33 x1_33 t1_33 = some q0 → kh_w D ca A ad ρ_33 H → va_S A s.heap H locs → kh_lv ls 4 [(0, .ref (ad 15 0)), (1, .int x1_33)] → W p l e (headSpec wsX5_pass ({ frames := 3, cells := 0, slots := 0, locals := 71 } : Room)).room s m ([.ref (ad 15 0), .int x1]).toArray below meth c H locs 0 0 (MQ below (kh_Qi D ca A ad (f_X5_pass ρ x1)) ([.ref (ad 15 0), .int x1]).toArray s 0 0 A) (F0 m 33 ls [.int t1_33, .ref (ad 15 0)]) := by
    intro ρ_33 x1_33 t1_33 H locs ls hF hw hS hl
    unfold f_X5_pass_L33 at hF
    obtain ⟨r_16, ρ_16, h_16, hF⟩ := kh_bd2_ok hF
    refine kh_calli (va_runV (As := [.int t1_33]) (rest := []) ⟨C.1, C.2.1, C.2.2.1, C.2.2.2.1, C.2.2.2.2.1⟩ (c_X5_refused l D ca A ad ρ_33 t1_33 h_16) (cwV 1 C.2.2.2.2.1 gX5_pass_X5_refused rfl rfl rfl (by decide +kernel) ⟨Nat.le_of_ble_eq_true rfl, Nat.le_of_ble_eq_true rfl⟩) (kh_preV C hw hS 15 (kh_z15 ρ_33) kh_kd15 rfl) rfl rfl hl.1.1 rfl (lv_room (kh_sum kh_an (Nat.le_of_ble_eq_true rfl))) dX5_pass_33 ⟨Nat.le_of_ble_eq_true rfl, Nat.le_of_ble_eq_true rfl⟩) hS h_16 (fun H locs hw hS => ?_)
    refine lv_if_eq (tgt := 41) C.1 C.2.1 dX5_pass_36 (by decide) (fun c_17 => ?_) (fun c_17 => ?_)
    · have hF := kh_ift hF c_17
      refine lv_iconst (v := (0 : Int32)) C.1 C.2.1 dX5_pass_41 (by decide) ?_
      refine kh_istore_n (lv' := [(2, .int (0 : Int32)), (0, .ref (ad 15 0)), (1, .int x1_33)]) C.1 C.2.1 dX5_pass_42 rfl hl (by decide) rfl (fun ls hl => ?_)
      obtain ⟨b_43, hb_43, hF⟩ := kh_bd_ok hF
      exact wB43 x1_33 b_43 hF _ ρ_16 (0 : Int32) _ _ _ hb_43 hw hS (kh_sub hl [1, 2, 0] rfl)
    · have hF := kh_iff hF c_17
      refine lv_iconst (v := (0 : Int32)) C.1 C.2.1 dX5_pass_39 (by decide) ?_
      exact W.iret (v := (0 : Int32)) C.1 C.2.1 hr (fun t ht hW => ⟨⟨(0 : Int32), ρ_16, rfl, hF0.trans hF.symm, kh_bk ht hw⟩, hS.F ht⟩) hS.2.2 dX5_pass_40
  refine lv_aload_n C.1 C.2.1 dX5_pass_0 rfl (kh_at hl 0 rfl) ?_
  refine lv_iload_n C.1 C.2.1 dX5_pass_1 rfl (kh_at hl 1 rfl) ?_
  refine lv_iconst (v := (1 : Int32)) C.1 C.2.1 dX5_pass_2 (by decide) ?_
  refine lv_sipush (v := (600 : Int32)) C.1 C.2.1 dX5_pass_3 (by decide) ?_
  obtain ⟨r_18, h_18, hF⟩ := kh_bd_ok hF
  refine kh_calli (va_runS (As := [.int x1, .int (1 : Int32), .int (600 : Int32)]) (rest := [.ref (ad 15 0)]) ⟨C.1, C.2.1, C.2.2.1, C.2.2.2.1, C.2.2.2.2.1⟩ (c_X5_in l D ca A ad ρ x1 (1 : Int32) (600 : Int32) h_18) (va_cwS 3 C.2.2.2.2.1 gX5_pass_X5_in rfl rfl rfl (by decide +kernel) ⟨Nat.le_of_ble_eq_true rfl, Nat.le_of_ble_eq_true rfl⟩) (kh_preS C hw hS) rfl rfl hl.1.1 rfl (lv_room (kh_sum (kh_ac rfl kh_an) (Nat.le_of_ble_eq_true rfl))) dX5_pass_6 ⟨Nat.le_of_ble_eq_true rfl, Nat.le_of_ble_eq_true rfl⟩) hS (kh_mp h_18) (fun H locs hw hS => ?_)
  refine lv_if_ne (tgt := 16) C.1 C.2.1 dX5_pass_9 (by decide) (fun c_19 => ?_) (fun c_19 => ?_)
  · have hF := kh_iff hF c_19
    refine lv_aload_n C.1 C.2.1 dX5_pass_16 rfl (kh_at hl 0 rfl) ?_
    refine kh_get C hw 15 1 rfl (kh_z15 ρ) kh_kd15 (Cn := RX5) (T := TX5) (N := 33) rfl (Nat.le_of_ble_eq_true rfl) k_141 (kf_15_1 ad ρ 0) dX5_pass_17 ?_
    refine lv_iload_n C.1 C.2.1 dX5_pass_20 rfl (kh_at hl 1 rfl) ?_
    refine lv_iadd C.1 C.2.1 dX5_pass_21 ?_
    refine lv_sipush (v := (5000 : Int32)) C.1 C.2.1 dX5_pass_22 (by decide) ?_
    refine lv_icmp_le (tgt := 32) C.1 C.2.1 dX5_pass_25 (by decide) (fun c_20 => ?_) (fun c_20 => ?_)
    · have hF := kh_ift hF c_20
      refine lv_iconst (v := (0 : Int32)) C.1 C.2.1 dX5_pass_32 (by decide) ?_
      exact wL33 ρ x1 (0 : Int32) _ _ _ hF hw hS (kh_sub hl [0, 1] rfl)
    · have hF := kh_iff hF c_20
      refine lv_iconst (v := (2 : Int32)) C.1 C.2.1 dX5_pass_28 (by decide) ?_
      refine lv_goto (tgt := 33) C.1 C.2.1 dX5_pass_29 (by decide) ?_
      exact wL33 ρ x1 (2 : Int32) _ _ _ hF hw hS (kh_sub hl [0, 1] rfl)
  · have hF := kh_ift hF c_19
    refine lv_iconst (v := (1 : Int32)) C.1 C.2.1 dX5_pass_12 (by decide) ?_
    refine lv_goto (tgt := 33) C.1 C.2.1 dX5_pass_13 (by decide) ?_
    exact wL33 ρ x1 (1 : Int32) _ _ _ hF hw hS (kh_sub hl [0, 1] rfl)

def f_X5_minute (ρ : kh_S)  : Option (Int32 × kh_S) := some ((kh_up ρ 15 0 0 0 (0 : Int32)) 15 1 0 0, kh_up ρ 15 0 0 0 (0 : Int32))
set_option maxHeartbeats 4000000 in
set_option maxRecDepth 100000 in
theorem c_X5_minute (l : Launch) (D : va_G) (ca : Nat → ClassId) (A : Nat → Prop) (ad : Nat → Nat → Nat) (ρ : kh_S)  {q0 : Int32 × kh_S} (hF0 : f_X5_minute ρ = some q0) : Met l yX5_minute wsX5_minute ({ frames := 0, cells := 0, slots := 0, locals := 0 } : Room) (va_Pc [.ref (ad 15 0)] (kh_I D ca A ad ρ)) (kh_Qi D ca A ad (f_X5_minute ρ)) 0 0 A := by
  refine Met.ofW (cc := cX5_minute) (maxL := 1) (ret := (some .int)) (by decide) rfl ?_
  intro p e s m args below meth c s₁ B hml hv
  obtain ⟨rfl, hK, hw, hA⟩ := hv
  have C : kh_C p s m ([.ref (ad 15 0)]).toArray c cX5_minute 1 RX5 wsX5_minute D ca A := ⟨B.exec, B.bytes, hml, findClass_of_methodNamed B.named, atoms_spec (ws := wsX5_minute) B.pre, hK, hA⟩
  have hr := B.returns
  have hlocks := B.notSynchronized
  have hS : va_S A s.heap s.heap [] := va_S.rf
  have hl := kh_entry ([.ref (ad 15 0)]) (n := 1) (kh_ac rfl kh_an) (Nat.le_of_ble_eq_true rfl)
  rw [lg_entry_eq]
  generalize (lg_sl ([.ref (ad 15 0)]) ++ List.replicate (1 - (lg_sl ([.ref (ad 15 0)])).length) Slot.unset).toArray = ls at hl ⊢
  have hl : kh_lv ls 1 [(0, .ref (ad 15 0))] := hl
  have k_92 := C.2.2.2.2.1 (.fieldLink RX5 92 "KeylessHallModel" "thrown" "I") (by decide +kernel)
  have k_141 := C.2.2.2.2.1 (.fieldLink RX5 141 "KeylessHallModel" "minute" "I") (by decide +kernel)
  have hF := hF0
  unfold f_X5_minute at hF
  refine lv_aload_n C.1 C.2.1 dX5_minute_0 rfl (kh_at hl 0 rfl) ?_
  refine lv_iconst (v := (0 : Int32)) C.1 C.2.1 dX5_minute_1 (by decide) ?_
  refine kh_putI C hw hS 15 0 rfl (kh_z15 ρ) kh_kd15 (by decide) (Cn := RX5) (T := TX5) (N := 33) rfl (Nat.le_of_ble_eq_true rfl) (kq_15_0) k_92 rfl (by decide +kernel) dX5_minute_2 (fun H locs hw hS => ?_)
  refine lv_aload_n C.1 C.2.1 dX5_minute_5 rfl (kh_at hl 0 rfl) ?_
  refine kh_get C hw 15 1 rfl (kh_z15 (kh_up ρ 15 0 0 0 (0 : Int32))) kh_kd15 (Cn := RX5) (T := TX5) (N := 33) rfl (Nat.le_of_ble_eq_true rfl) k_141 (kf_15_1 ad (kh_up ρ 15 0 0 0 (0 : Int32)) 0) dX5_minute_6 ?_
  exact W.iret (v := (kh_up ρ 15 0 0 0 (0 : Int32)) 15 1 0 0) C.1 C.2.1 hr (fun t ht hW => ⟨⟨(kh_up ρ 15 0 0 0 (0 : Int32)) 15 1 0 0, kh_up ρ 15 0 0 0 (0 : Int32), rfl, hF0.trans hF.symm, kh_bk ht hw⟩, hS.F ht⟩) hS.2.2 dX5_minute_9

def f_X5_state_L95 (ρ_95 : kh_S) (t0_95 : Int32) : Option (Int32 × kh_S) := some (t0_95, ρ_95)
def f_X5_state_L27 (ρ_27 : kh_S) (x1_27 : Int32) (x2_27 : Int32) (t1_27 : Int32) : Option (Int32 × kh_S) := kh_bd2 (f_X5_refused ρ_27 t1_27) (fun r_1 ρ_1 => if r_1 = 0 then if x2_27 = 0 then kh_gd (kh_in x1_27 4) (f_X5_state_L95 ρ_1 (ρ_1 26 0 0 x1_27.toNatClampNeg)) else if x2_27 = (1 : Int32) then kh_gd (kh_in x1_27 4) (f_X5_state_L95 ρ_1 (ρ_1 27 0 0 x1_27.toNatClampNeg)) else if x2_27 = (2 : Int32) then kh_gd (kh_in x1_27 4) (f_X5_state_L95 ρ_1 (ρ_1 28 0 0 x1_27.toNatClampNeg)) else if x2_27 = (3 : Int32) then kh_gd (kh_in x1_27 4) (f_X5_state_L95 ρ_1 (ρ_1 29 0 0 x1_27.toNatClampNeg)) else kh_bd (f_X5_gapOf ρ_1 x1_27) (fun r_7 => f_X5_state_L95 ρ_1 r_7) else some ((0 : Int32), ρ_1))
def f_X5_state (ρ : kh_S) (x1 : Int32) (x2 : Int32) : Option (Int32 × kh_S) := kh_bd (f_X5_isRoom ρ x1) (fun r_12 => if r_12 = 0 then f_X5_state_L27 ρ x1 x2 (1 : Int32) else kh_bd (f_X5_in ρ x2 (0 : Int32) (4 : Int32)) (fun r_14 => if r_14 = 0 then f_X5_state_L27 ρ x1 x2 (2 : Int32) else f_X5_state_L27 ρ x1 x2 (0 : Int32)))
set_option maxHeartbeats 4000000 in
set_option maxRecDepth 100000 in
theorem c_X5_state (l : Launch) (D : va_G) (ca : Nat → ClassId) (A : Nat → Prop) (ad : Nat → Nat → Nat) (ρ : kh_S) (x1 : Int32) (x2 : Int32) {q0 : Int32 × kh_S} (hF0 : f_X5_state ρ x1 x2 = some q0) : Met l yX5_state wsX5_state ({ frames := 2, cells := 0, slots := 0, locals := 43 } : Room) (va_Pc [.ref (ad 15 0), .int x1, .int x2] (kh_I D ca A ad ρ)) (kh_Qi D ca A ad (f_X5_state ρ x1 x2)) 0 0 A := by
  refine Met.ofW (cc := cX5_state) (maxL := 3) (ret := (some .int)) (by decide) rfl ?_
  intro p e s m args below meth c s₁ B hml hv
  obtain ⟨rfl, hK, hw, hA⟩ := hv
  have C : kh_C p s m ([.ref (ad 15 0), .int x1, .int x2]).toArray c cX5_state 3 RX5 wsX5_state D ca A := ⟨B.exec, B.bytes, hml, findClass_of_methodNamed B.named, atoms_spec (ws := wsX5_state) B.pre, hK, hA⟩
  have hr := B.returns
  have hlocks := B.notSynchronized
  have hS : va_S A s.heap s.heap [] := va_S.rf
  have hl := kh_entry ([.ref (ad 15 0), .int x1, .int x2]) (n := 3) (kh_ac rfl (kh_ac rfl (kh_ac rfl kh_an))) (Nat.le_of_ble_eq_true rfl)
  rw [lg_entry_eq]
  generalize (lg_sl ([.ref (ad 15 0), .int x1, .int x2]) ++ List.replicate (3 - (lg_sl ([.ref (ad 15 0), .int x1, .int x2])).length) Slot.unset).toArray = ls at hl ⊢
  have hl : kh_lv ls 3 [(0, .ref (ad 15 0)), (1, .int x1), (2, .int x2)] := hl
  have k_25 := C.2.2.2.2.1 (.fieldLink RX5 25 "KeylessHallModel" "groupIn" "[I") (by decide +kernel)
  have k_22 := C.2.2.2.2.1 (.fieldLink RX5 22 "KeylessHallModel" "forgotten" "[I") (by decide +kernel)
  have k_19 := C.2.2.2.2.1 (.fieldLink RX5 19 "KeylessHallModel" "toReset" "[I") (by decide +kernel)
  have k_16 := C.2.2.2.2.1 (.fieldLink RX5 16 "KeylessHallModel" "state" "[I") (by decide +kernel)
  have hF := hF0
  unfold f_X5_state at hF
  have wL95 : ∀ (ρ_95 : kh_S) (t0_95 : Int32) (H : Heap) (locs : List Loc) (ls : Array Slot), f_X5_state_L95 ρ_95 t0_95 = some q0 → kh_w D ca A ad ρ_95 H → va_S A s.heap H locs → kh_lv ls 3 [] → W p l e (headSpec wsX5_state ({ frames := 2, cells := 0, slots := 0, locals := 43 } : Room)).room s m ([.ref (ad 15 0), .int x1, .int x2]).toArray below meth c H locs 0 0 (MQ below (kh_Qi D ca A ad (f_X5_state ρ x1 x2)) ([.ref (ad 15 0), .int x1, .int x2]).toArray s 0 0 A) (F0 m 95 ls [.int t0_95]) := by
    intro ρ_95 t0_95 H locs ls hF hw hS hl
    unfold f_X5_state_L95 at hF
    exact W.iret (v := t0_95) C.1 C.2.1 hr (fun t ht hW => ⟨⟨t0_95, ρ_95, rfl, hF0.trans hF.symm, kh_bk ht hw⟩, hS.F ht⟩) hS.2.2 dX5_state_95
  have wL27 : ∀ (ρ_27 : kh_S) (x1_27 : Int32) (x2_27 : Int32) (t1_27 : Int32) (H : Heap) (locs : List Loc) (ls : Array Slot), f_X5_state_L27 ρ_27 x1_27 x2_27 t1_27 = some q0 → kh_w D ca A ad ρ_27 H → va_S A s.heap H locs → kh_lv ls 3 [(0, .ref (ad 15 0)), (1, .int x1_27), (2, .int x2_27)] → W p l e (headSpec wsX5_state ({ frames := 2, cells := 0, slots := 0, locals := 43 } : Room)).room s m ([.ref (ad 15 0), .int x1, .int x2]).toArray below meth c H locs 0 0 (MQ below (kh_Qi D ca A ad (f_X5_state ρ x1 x2)) ([.ref (ad 15 0), .int x1, .int x2]).toArray s 0 0 A) (F0 m 27 ls [.int t1_27, .ref (ad 15 0)]) := by
    intro ρ_27 x1_27 x2_27 t1_27 H locs ls hF hw hS hl
    unfold f_X5_state_L27 at hF
    obtain ⟨r_1, ρ_1, h_1, hF⟩ := kh_bd2_ok hF
    refine kh_calli (va_runV (As := [.int t1_27]) (rest := []) ⟨C.1, C.2.1, C.2.2.1, C.2.2.2.1, C.2.2.2.2.1⟩ (c_X5_refused l D ca A ad ρ_27 t1_27 h_1) (cwV 1 C.2.2.2.2.1 gX5_state_X5_refused rfl rfl rfl (by decide +kernel) ⟨Nat.le_of_ble_eq_true rfl, Nat.le_of_ble_eq_true rfl⟩) (kh_preV C hw hS 15 (kh_z15 ρ_27) kh_kd15 rfl) rfl rfl hl.1.1 rfl (lv_room (kh_sum kh_an (Nat.le_of_ble_eq_true rfl))) dX5_state_27 ⟨Nat.le_of_ble_eq_true rfl, Nat.le_of_ble_eq_true rfl⟩) hS h_1 (fun H locs hw hS => ?_)
    refine lv_if_eq (tgt := 35) C.1 C.2.1 dX5_state_30 (by decide) (fun c_2 => ?_) (fun c_2 => ?_)
    · have hF := kh_ift hF c_2
      refine lv_iload_n C.1 C.2.1 dX5_state_35 rfl (kh_at hl 2 rfl) ?_
      refine lv_if_ne (tgt := 48) C.1 C.2.1 dX5_state_36 (by decide) (fun c_3 => ?_) (fun c_3 => ?_)
      · have hF := kh_iff hF c_3
        refine lv_iload_n C.1 C.2.1 dX5_state_48 rfl (kh_at hl 2 rfl) ?_
        refine lv_iconst (v := (1 : Int32)) C.1 C.2.1 dX5_state_49 (by decide) ?_
        refine lv_icmp_ne (tgt := 62) C.1 C.2.1 dX5_state_50 (by decide) (fun c_4 => ?_) (fun c_4 => ?_)
        · have hF := kh_iff hF c_4
          refine lv_iload_n C.1 C.2.1 dX5_state_62 rfl (kh_at hl 2 rfl) ?_
          refine lv_iconst (v := (2 : Int32)) C.1 C.2.1 dX5_state_63 (by decide) ?_
          refine lv_icmp_ne (tgt := 76) C.1 C.2.1 dX5_state_64 (by decide) (fun c_5 => ?_) (fun c_5 => ?_)
          · have hF := kh_iff hF c_5
            refine lv_iload_n C.1 C.2.1 dX5_state_76 rfl (kh_at hl 2 rfl) ?_
            refine lv_iconst (v := (3 : Int32)) C.1 C.2.1 dX5_state_77 (by decide) ?_
            refine lv_icmp_ne (tgt := 90) C.1 C.2.1 dX5_state_78 (by decide) (fun c_6 => ?_) (fun c_6 => ?_)
            · have hF := kh_iff hF c_6
              refine lv_aload_n C.1 C.2.1 dX5_state_90 rfl (kh_at hl 0 rfl) ?_
              refine lv_iload_n C.1 C.2.1 dX5_state_91 rfl (kh_at hl 1 rfl) ?_
              obtain ⟨r_7, h_7, hF⟩ := kh_bd_ok hF
              refine kh_calli (va_runV (As := [.int x1_27]) (rest := []) ⟨C.1, C.2.1, C.2.2.1, C.2.2.2.1, C.2.2.2.2.1⟩ (c_X5_gapOf l D ca A ad ρ_1 x1_27 h_7) (cwV 1 C.2.2.2.2.1 gX5_state_X5_gapOf rfl rfl rfl (by decide +kernel) ⟨Nat.le_of_ble_eq_true rfl, Nat.le_of_ble_eq_true rfl⟩) (kh_preV C hw hS 15 (kh_z15 ρ_1) kh_kd15 rfl) rfl rfl hl.1.1 rfl (lv_room (kh_sum kh_an (Nat.le_of_ble_eq_true rfl))) dX5_state_92 ⟨Nat.le_of_ble_eq_true rfl, Nat.le_of_ble_eq_true rfl⟩) hS (kh_mp h_7) (fun H locs hw hS => ?_)
              exact wL95 ρ_1 r_7 _ _ _ hF hw hS (kh_sub hl [] rfl)
            · have hF := kh_ift hF c_6
              refine lv_aload_n C.1 C.2.1 dX5_state_81 rfl (kh_at hl 0 rfl) ?_
              refine kh_get C hw 15 9 rfl (kh_z15 ρ_1) kh_kd15 (Cn := RX5) (T := TX5) (N := 33) rfl (Nat.le_of_ble_eq_true rfl) k_25 (kf_15_9 ad ρ_1 0) dX5_state_82 ?_
              refine lv_iload_n C.1 C.2.1 dX5_state_85 rfl (kh_at hl 1 rfl) ?_
              obtain ⟨g_8, hF⟩ := kh_gd_ok hF
              refine kh_iald C hw 29 rfl (kh_z29 ρ_1) kh_kd29 g_8 dX5_state_86 ?_
              refine lv_goto (tgt := 95) C.1 C.2.1 dX5_state_87 (by decide) ?_
              exact wL95 ρ_1 (ρ_1 29 0 0 x1_27.toNatClampNeg) _ _ _ hF hw hS (kh_sub hl [] rfl)
          · have hF := kh_ift hF c_5
            refine lv_aload_n C.1 C.2.1 dX5_state_67 rfl (kh_at hl 0 rfl) ?_
            refine kh_get C hw 15 8 rfl (kh_z15 ρ_1) kh_kd15 (Cn := RX5) (T := TX5) (N := 33) rfl (Nat.le_of_ble_eq_true rfl) k_22 (kf_15_8 ad ρ_1 0) dX5_state_68 ?_
            refine lv_iload_n C.1 C.2.1 dX5_state_71 rfl (kh_at hl 1 rfl) ?_
            obtain ⟨g_9, hF⟩ := kh_gd_ok hF
            refine kh_iald C hw 28 rfl (kh_z28 ρ_1) kh_kd28 g_9 dX5_state_72 ?_
            refine lv_goto (tgt := 95) C.1 C.2.1 dX5_state_73 (by decide) ?_
            exact wL95 ρ_1 (ρ_1 28 0 0 x1_27.toNatClampNeg) _ _ _ hF hw hS (kh_sub hl [] rfl)
        · have hF := kh_ift hF c_4
          refine lv_aload_n C.1 C.2.1 dX5_state_53 rfl (kh_at hl 0 rfl) ?_
          refine kh_get C hw 15 7 rfl (kh_z15 ρ_1) kh_kd15 (Cn := RX5) (T := TX5) (N := 33) rfl (Nat.le_of_ble_eq_true rfl) k_19 (kf_15_7 ad ρ_1 0) dX5_state_54 ?_
          refine lv_iload_n C.1 C.2.1 dX5_state_57 rfl (kh_at hl 1 rfl) ?_
          obtain ⟨g_10, hF⟩ := kh_gd_ok hF
          refine kh_iald C hw 27 rfl (kh_z27 ρ_1) kh_kd27 g_10 dX5_state_58 ?_
          refine lv_goto (tgt := 95) C.1 C.2.1 dX5_state_59 (by decide) ?_
          exact wL95 ρ_1 (ρ_1 27 0 0 x1_27.toNatClampNeg) _ _ _ hF hw hS (kh_sub hl [] rfl)
      · have hF := kh_ift hF c_3
        refine lv_aload_n C.1 C.2.1 dX5_state_39 rfl (kh_at hl 0 rfl) ?_
        refine kh_get C hw 15 6 rfl (kh_z15 ρ_1) kh_kd15 (Cn := RX5) (T := TX5) (N := 33) rfl (Nat.le_of_ble_eq_true rfl) k_16 (kf_15_6 ad ρ_1 0) dX5_state_40 ?_
        refine lv_iload_n C.1 C.2.1 dX5_state_43 rfl (kh_at hl 1 rfl) ?_
        obtain ⟨g_11, hF⟩ := kh_gd_ok hF
        refine kh_iald C hw 26 rfl (kh_z26 ρ_1) kh_kd26 g_11 dX5_state_44 ?_
        refine lv_goto (tgt := 95) C.1 C.2.1 dX5_state_45 (by decide) ?_
        exact wL95 ρ_1 (ρ_1 26 0 0 x1_27.toNatClampNeg) _ _ _ hF hw hS (kh_sub hl [] rfl)
    · have hF := kh_iff hF c_2
      refine lv_iconst (v := (0 : Int32)) C.1 C.2.1 dX5_state_33 (by decide) ?_
      exact W.iret (v := (0 : Int32)) C.1 C.2.1 hr (fun t ht hW => ⟨⟨(0 : Int32), ρ_1, rfl, hF0.trans hF.symm, kh_bk ht hw⟩, hS.F ht⟩) hS.2.2 dX5_state_34
  refine lv_aload_n C.1 C.2.1 dX5_state_0 rfl (kh_at hl 0 rfl) ?_
  refine lv_aload_n C.1 C.2.1 dX5_state_1 rfl (kh_at hl 0 rfl) ?_
  refine lv_iload_n C.1 C.2.1 dX5_state_2 rfl (kh_at hl 1 rfl) ?_
  obtain ⟨r_12, h_12, hF⟩ := kh_bd_ok hF
  refine kh_calli (va_runV (As := [.int x1]) (rest := [.ref (ad 15 0)]) ⟨C.1, C.2.1, C.2.2.1, C.2.2.2.1, C.2.2.2.2.1⟩ (c_X5_isRoom l D ca A ad ρ x1 h_12) (cwV 1 C.2.2.2.2.1 gX5_state_X5_isRoom rfl rfl rfl (by decide +kernel) ⟨Nat.le_of_ble_eq_true rfl, Nat.le_of_ble_eq_true rfl⟩) (kh_preV C hw hS 15 (kh_z15 ρ) kh_kd15 rfl) rfl rfl hl.1.1 rfl (lv_room (kh_sum (kh_ac rfl kh_an) (Nat.le_of_ble_eq_true rfl))) dX5_state_3 ⟨Nat.le_of_ble_eq_true rfl, Nat.le_of_ble_eq_true rfl⟩) hS (kh_mp h_12) (fun H locs hw hS => ?_)
  refine lv_if_ne (tgt := 13) C.1 C.2.1 dX5_state_6 (by decide) (fun c_13 => ?_) (fun c_13 => ?_)
  · have hF := kh_iff hF c_13
    refine lv_iload_n C.1 C.2.1 dX5_state_13 rfl (kh_at hl 2 rfl) ?_
    refine lv_iconst (v := (0 : Int32)) C.1 C.2.1 dX5_state_14 (by decide) ?_
    refine lv_iconst (v := (4 : Int32)) C.1 C.2.1 dX5_state_15 (by decide) ?_
    obtain ⟨r_14, h_14, hF⟩ := kh_bd_ok hF
    refine kh_calli (va_runS (As := [.int x2, .int (0 : Int32), .int (4 : Int32)]) (rest := [.ref (ad 15 0)]) ⟨C.1, C.2.1, C.2.2.1, C.2.2.2.1, C.2.2.2.2.1⟩ (c_X5_in l D ca A ad ρ x2 (0 : Int32) (4 : Int32) h_14) (va_cwS 3 C.2.2.2.2.1 gX5_state_X5_in rfl rfl rfl (by decide +kernel) ⟨Nat.le_of_ble_eq_true rfl, Nat.le_of_ble_eq_true rfl⟩) (kh_preS C hw hS) rfl rfl hl.1.1 rfl (lv_room (kh_sum (kh_ac rfl kh_an) (Nat.le_of_ble_eq_true rfl))) dX5_state_16 ⟨Nat.le_of_ble_eq_true rfl, Nat.le_of_ble_eq_true rfl⟩) hS (kh_mp h_14) (fun H locs hw hS => ?_)
    refine lv_if_ne (tgt := 26) C.1 C.2.1 dX5_state_19 (by decide) (fun c_15 => ?_) (fun c_15 => ?_)
    · have hF := kh_iff hF c_15
      refine lv_iconst (v := (0 : Int32)) C.1 C.2.1 dX5_state_26 (by decide) ?_
      exact wL27 ρ x1 x2 (0 : Int32) _ _ _ hF hw hS (kh_sub hl [0, 1, 2] rfl)
    · have hF := kh_ift hF c_15
      refine lv_iconst (v := (2 : Int32)) C.1 C.2.1 dX5_state_22 (by decide) ?_
      refine lv_goto (tgt := 27) C.1 C.2.1 dX5_state_23 (by decide) ?_
      exact wL27 ρ x1 x2 (2 : Int32) _ _ _ hF hw hS (kh_sub hl [0, 1, 2] rfl)
  · have hF := kh_ift hF c_13
    refine lv_iconst (v := (1 : Int32)) C.1 C.2.1 dX5_state_9 (by decide) ?_
    refine lv_goto (tgt := 27) C.1 C.2.1 dX5_state_10 (by decide) ?_
    exact wL27 ρ x1 x2 (1 : Int32) _ _ _ hF hw hS (kh_sub hl [0, 1, 2] rfl)

def f_X5_crew_L81 (ρ_81 : kh_S) (t0_81 : Int32) : Option (Int32 × kh_S) := some (t0_81, ρ_81)
def f_X5_crew_L26 (ρ_26 : kh_S) (x1_26 : Int32) (x2_26 : Int32) (t1_26 : Int32) : Option (Int32 × kh_S) := kh_bd2 (f_X5_refused ρ_26 t1_26) (fun r_1 ρ_1 => if r_1 = 0 then if x2_26 = 0 then kh_gd (kh_in x1_26 3) (f_X5_crew_L81 ρ_1 (ρ_1 43 0 0 x1_26.toNatClampNeg)) else if x2_26 = (1 : Int32) then kh_gd (kh_in x1_26 3) (f_X5_crew_L81 ρ_1 (ρ_1 44 0 0 x1_26.toNatClampNeg)) else kh_gd (kh_in x1_26 3) (if (ρ_1 43 0 0 x1_26.toNatClampNeg) = (-1 : Int32) then f_X5_crew_L81 ρ_1 (-1 : Int32) else f_X5_crew_L81 ρ_1 (ρ_1 45 0 0 x1_26.toNatClampNeg)) else some ((0 : Int32), ρ_1))
def f_X5_crew (ρ : kh_S) (x1 : Int32) (x2 : Int32) : Option (Int32 × kh_S) := kh_bd (f_X5_isCrew ρ x1) (fun r_9 => if r_9 = 0 then f_X5_crew_L26 ρ x1 x2 (1 : Int32) else kh_bd (f_X5_in ρ x2 (0 : Int32) (2 : Int32)) (fun r_11 => if r_11 = 0 then f_X5_crew_L26 ρ x1 x2 (2 : Int32) else f_X5_crew_L26 ρ x1 x2 (0 : Int32)))
set_option maxHeartbeats 4000000 in
set_option maxRecDepth 100000 in
theorem c_X5_crew (l : Launch) (D : va_G) (ca : Nat → ClassId) (A : Nat → Prop) (ad : Nat → Nat → Nat) (ρ : kh_S) (x1 : Int32) (x2 : Int32) {q0 : Int32 × kh_S} (hF0 : f_X5_crew ρ x1 x2 = some q0) : Met l yX5_crew wsX5_crew ({ frames := 2, cells := 0, slots := 0, locals := 42 } : Room) (va_Pc [.ref (ad 15 0), .int x1, .int x2] (kh_I D ca A ad ρ)) (kh_Qi D ca A ad (f_X5_crew ρ x1 x2)) 0 0 A := by
  refine Met.ofW (cc := cX5_crew) (maxL := 3) (ret := (some .int)) (by decide) rfl ?_
  intro p e s m args below meth c s₁ B hml hv
  obtain ⟨rfl, hK, hw, hA⟩ := hv
  have C : kh_C p s m ([.ref (ad 15 0), .int x1, .int x2]).toArray c cX5_crew 3 RX5 wsX5_crew D ca A := ⟨B.exec, B.bytes, hml, findClass_of_methodNamed B.named, atoms_spec (ws := wsX5_crew) B.pre, hK, hA⟩
  have hr := B.returns
  have hlocks := B.notSynchronized
  have hS : va_S A s.heap s.heap [] := va_S.rf
  have hl := kh_entry ([.ref (ad 15 0), .int x1, .int x2]) (n := 3) (kh_ac rfl (kh_ac rfl (kh_ac rfl kh_an))) (Nat.le_of_ble_eq_true rfl)
  rw [lg_entry_eq]
  generalize (lg_sl ([.ref (ad 15 0), .int x1, .int x2]) ++ List.replicate (3 - (lg_sl ([.ref (ad 15 0), .int x1, .int x2])).length) Slot.unset).toArray = ls at hl ⊢
  have hl : kh_lv ls 3 [(0, .ref (ad 15 0)), (1, .int x1), (2, .int x2)] := hl
  have k_64 := C.2.2.2.2.1 (.fieldLink RX5 64 "KeylessHallModel" "crewRoom" "[I") (by decide +kernel)
  have k_70 := C.2.2.2.2.1 (.fieldLink RX5 70 "KeylessHallModel" "crewLeft" "[I") (by decide +kernel)
  have k_67 := C.2.2.2.2.1 (.fieldLink RX5 67 "KeylessHallModel" "crewPuzzle" "[I") (by decide +kernel)
  have hF := hF0
  unfold f_X5_crew at hF
  have wL81 : ∀ (ρ_81 : kh_S) (t0_81 : Int32) (H : Heap) (locs : List Loc) (ls : Array Slot), f_X5_crew_L81 ρ_81 t0_81 = some q0 → kh_w D ca A ad ρ_81 H → va_S A s.heap H locs → kh_lv ls 3 [] → W p l e (headSpec wsX5_crew ({ frames := 2, cells := 0, slots := 0, locals := 42 } : Room)).room s m ([.ref (ad 15 0), .int x1, .int x2]).toArray below meth c H locs 0 0 (MQ below (kh_Qi D ca A ad (f_X5_crew ρ x1 x2)) ([.ref (ad 15 0), .int x1, .int x2]).toArray s 0 0 A) (F0 m 81 ls [.int t0_81]) := by
    intro ρ_81 t0_81 H locs ls hF hw hS hl
    unfold f_X5_crew_L81 at hF
    exact W.iret (v := t0_81) C.1 C.2.1 hr (fun t ht hW => ⟨⟨t0_81, ρ_81, rfl, hF0.trans hF.symm, kh_bk ht hw⟩, hS.F ht⟩) hS.2.2 dX5_crew_81
  have wL26 : ∀ (ρ_26 : kh_S) (x1_26 : Int32) (x2_26 : Int32) (t1_26 : Int32) (H : Heap) (locs : List Loc) (ls : Array Slot), f_X5_crew_L26 ρ_26 x1_26 x2_26 t1_26 = some q0 → kh_w D ca A ad ρ_26 H → va_S A s.heap H locs → kh_lv ls 3 [(0, .ref (ad 15 0)), (1, .int x1_26), (2, .int x2_26)] → W p l e (headSpec wsX5_crew ({ frames := 2, cells := 0, slots := 0, locals := 42 } : Room)).room s m ([.ref (ad 15 0), .int x1, .int x2]).toArray below meth c H locs 0 0 (MQ below (kh_Qi D ca A ad (f_X5_crew ρ x1 x2)) ([.ref (ad 15 0), .int x1, .int x2]).toArray s 0 0 A) (F0 m 26 ls [.int t1_26, .ref (ad 15 0)]) := by
    intro ρ_26 x1_26 x2_26 t1_26 H locs ls hF hw hS hl
    unfold f_X5_crew_L26 at hF
    obtain ⟨r_1, ρ_1, h_1, hF⟩ := kh_bd2_ok hF
    refine kh_calli (va_runV (As := [.int t1_26]) (rest := []) ⟨C.1, C.2.1, C.2.2.1, C.2.2.2.1, C.2.2.2.2.1⟩ (c_X5_refused l D ca A ad ρ_26 t1_26 h_1) (cwV 1 C.2.2.2.2.1 gX5_crew_X5_refused rfl rfl rfl (by decide +kernel) ⟨Nat.le_of_ble_eq_true rfl, Nat.le_of_ble_eq_true rfl⟩) (kh_preV C hw hS 15 (kh_z15 ρ_26) kh_kd15 rfl) rfl rfl hl.1.1 rfl (lv_room (kh_sum kh_an (Nat.le_of_ble_eq_true rfl))) dX5_crew_26 ⟨Nat.le_of_ble_eq_true rfl, Nat.le_of_ble_eq_true rfl⟩) hS h_1 (fun H locs hw hS => ?_)
    refine lv_if_eq (tgt := 34) C.1 C.2.1 dX5_crew_29 (by decide) (fun c_2 => ?_) (fun c_2 => ?_)
    · have hF := kh_ift hF c_2
      refine lv_iload_n C.1 C.2.1 dX5_crew_34 rfl (kh_at hl 2 rfl) ?_
      refine lv_if_ne (tgt := 47) C.1 C.2.1 dX5_crew_35 (by decide) (fun c_3 => ?_) (fun c_3 => ?_)
      · have hF := kh_iff hF c_3
        refine lv_iload_n C.1 C.2.1 dX5_crew_47 rfl (kh_at hl 2 rfl) ?_
        refine lv_iconst (v := (1 : Int32)) C.1 C.2.1 dX5_crew_48 (by decide) ?_
        refine lv_icmp_ne (tgt := 61) C.1 C.2.1 dX5_crew_49 (by decide) (fun c_4 => ?_) (fun c_4 => ?_)
        · have hF := kh_iff hF c_4
          refine lv_aload_n C.1 C.2.1 dX5_crew_61 rfl (kh_at hl 0 rfl) ?_
          refine kh_get C hw 15 23 rfl (kh_z15 ρ_1) kh_kd15 (Cn := RX5) (T := TX5) (N := 33) rfl (Nat.le_of_ble_eq_true rfl) k_64 (kf_15_23 ad ρ_1 0) dX5_crew_62 ?_
          refine lv_iload_n C.1 C.2.1 dX5_crew_65 rfl (kh_at hl 1 rfl) ?_
          obtain ⟨g_5, hF⟩ := kh_gd_ok hF
          refine kh_iald C hw 43 rfl (kh_z43 ρ_1) kh_kd43 g_5 dX5_crew_66 ?_
          refine lv_iconst (v := (-1 : Int32)) C.1 C.2.1 dX5_crew_67 (by decide) ?_
          refine lv_icmp_ne (tgt := 75) C.1 C.2.1 dX5_crew_68 (by decide) (fun c_6 => ?_) (fun c_6 => ?_)
          · have hF := kh_iff hF c_6
            refine lv_aload_n C.1 C.2.1 dX5_crew_75 rfl (kh_at hl 0 rfl) ?_
            refine kh_get C hw 15 25 rfl (kh_z15 ρ_1) kh_kd15 (Cn := RX5) (T := TX5) (N := 33) rfl (Nat.le_of_ble_eq_true rfl) k_70 (kf_15_25 ad ρ_1 0) dX5_crew_76 ?_
            refine lv_iload_n C.1 C.2.1 dX5_crew_79 rfl (kh_at hl 1 rfl) ?_
            refine kh_iald C hw 45 rfl (kh_z45 ρ_1) kh_kd45 g_5 dX5_crew_80 ?_
            exact wL81 ρ_1 (ρ_1 45 0 0 x1_26.toNatClampNeg) _ _ _ hF hw hS (kh_sub hl [] rfl)
          · have hF := kh_ift hF c_6
            refine lv_iconst (v := (-1 : Int32)) C.1 C.2.1 dX5_crew_71 (by decide) ?_
            refine lv_goto (tgt := 81) C.1 C.2.1 dX5_crew_72 (by decide) ?_
            exact wL81 ρ_1 (-1 : Int32) _ _ _ hF hw hS (kh_sub hl [] rfl)
        · have hF := kh_ift hF c_4
          refine lv_aload_n C.1 C.2.1 dX5_crew_52 rfl (kh_at hl 0 rfl) ?_
          refine kh_get C hw 15 24 rfl (kh_z15 ρ_1) kh_kd15 (Cn := RX5) (T := TX5) (N := 33) rfl (Nat.le_of_ble_eq_true rfl) k_67 (kf_15_24 ad ρ_1 0) dX5_crew_53 ?_
          refine lv_iload_n C.1 C.2.1 dX5_crew_56 rfl (kh_at hl 1 rfl) ?_
          obtain ⟨g_7, hF⟩ := kh_gd_ok hF
          refine kh_iald C hw 44 rfl (kh_z44 ρ_1) kh_kd44 g_7 dX5_crew_57 ?_
          refine lv_goto (tgt := 81) C.1 C.2.1 dX5_crew_58 (by decide) ?_
          exact wL81 ρ_1 (ρ_1 44 0 0 x1_26.toNatClampNeg) _ _ _ hF hw hS (kh_sub hl [] rfl)
      · have hF := kh_ift hF c_3
        refine lv_aload_n C.1 C.2.1 dX5_crew_38 rfl (kh_at hl 0 rfl) ?_
        refine kh_get C hw 15 23 rfl (kh_z15 ρ_1) kh_kd15 (Cn := RX5) (T := TX5) (N := 33) rfl (Nat.le_of_ble_eq_true rfl) k_64 (kf_15_23 ad ρ_1 0) dX5_crew_39 ?_
        refine lv_iload_n C.1 C.2.1 dX5_crew_42 rfl (kh_at hl 1 rfl) ?_
        obtain ⟨g_8, hF⟩ := kh_gd_ok hF
        refine kh_iald C hw 43 rfl (kh_z43 ρ_1) kh_kd43 g_8 dX5_crew_43 ?_
        refine lv_goto (tgt := 81) C.1 C.2.1 dX5_crew_44 (by decide) ?_
        exact wL81 ρ_1 (ρ_1 43 0 0 x1_26.toNatClampNeg) _ _ _ hF hw hS (kh_sub hl [] rfl)
    · have hF := kh_iff hF c_2
      refine lv_iconst (v := (0 : Int32)) C.1 C.2.1 dX5_crew_32 (by decide) ?_
      exact W.iret (v := (0 : Int32)) C.1 C.2.1 hr (fun t ht hW => ⟨⟨(0 : Int32), ρ_1, rfl, hF0.trans hF.symm, kh_bk ht hw⟩, hS.F ht⟩) hS.2.2 dX5_crew_33
  refine lv_aload_n C.1 C.2.1 dX5_crew_0 rfl (kh_at hl 0 rfl) ?_
  refine lv_iload_n C.1 C.2.1 dX5_crew_1 rfl (kh_at hl 1 rfl) ?_
  obtain ⟨r_9, h_9, hF⟩ := kh_bd_ok hF
  refine kh_calli (va_runS (As := [.int x1]) (rest := [.ref (ad 15 0)]) ⟨C.1, C.2.1, C.2.2.1, C.2.2.2.1, C.2.2.2.2.1⟩ (c_X5_isCrew l D ca A ad ρ x1 h_9) (va_cwS 1 C.2.2.2.2.1 gX5_crew_X5_isCrew rfl rfl rfl (by decide +kernel) ⟨Nat.le_of_ble_eq_true rfl, Nat.le_of_ble_eq_true rfl⟩) (kh_preS C hw hS) rfl rfl hl.1.1 rfl (lv_room (kh_sum (kh_ac rfl kh_an) (Nat.le_of_ble_eq_true rfl))) dX5_crew_2 ⟨Nat.le_of_ble_eq_true rfl, Nat.le_of_ble_eq_true rfl⟩) hS (kh_mp h_9) (fun H locs hw hS => ?_)
  refine lv_if_ne (tgt := 12) C.1 C.2.1 dX5_crew_5 (by decide) (fun c_10 => ?_) (fun c_10 => ?_)
  · have hF := kh_iff hF c_10
    refine lv_iload_n C.1 C.2.1 dX5_crew_12 rfl (kh_at hl 2 rfl) ?_
    refine lv_iconst (v := (0 : Int32)) C.1 C.2.1 dX5_crew_13 (by decide) ?_
    refine lv_iconst (v := (2 : Int32)) C.1 C.2.1 dX5_crew_14 (by decide) ?_
    obtain ⟨r_11, h_11, hF⟩ := kh_bd_ok hF
    refine kh_calli (va_runS (As := [.int x2, .int (0 : Int32), .int (2 : Int32)]) (rest := [.ref (ad 15 0)]) ⟨C.1, C.2.1, C.2.2.1, C.2.2.2.1, C.2.2.2.2.1⟩ (c_X5_in l D ca A ad ρ x2 (0 : Int32) (2 : Int32) h_11) (va_cwS 3 C.2.2.2.2.1 gX5_crew_X5_in rfl rfl rfl (by decide +kernel) ⟨Nat.le_of_ble_eq_true rfl, Nat.le_of_ble_eq_true rfl⟩) (kh_preS C hw hS) rfl rfl hl.1.1 rfl (lv_room (kh_sum (kh_ac rfl kh_an) (Nat.le_of_ble_eq_true rfl))) dX5_crew_15 ⟨Nat.le_of_ble_eq_true rfl, Nat.le_of_ble_eq_true rfl⟩) hS (kh_mp h_11) (fun H locs hw hS => ?_)
    refine lv_if_ne (tgt := 25) C.1 C.2.1 dX5_crew_18 (by decide) (fun c_12 => ?_) (fun c_12 => ?_)
    · have hF := kh_iff hF c_12
      refine lv_iconst (v := (0 : Int32)) C.1 C.2.1 dX5_crew_25 (by decide) ?_
      exact wL26 ρ x1 x2 (0 : Int32) _ _ _ hF hw hS (kh_sub hl [0, 1, 2] rfl)
    · have hF := kh_ift hF c_12
      refine lv_iconst (v := (2 : Int32)) C.1 C.2.1 dX5_crew_21 (by decide) ?_
      refine lv_goto (tgt := 26) C.1 C.2.1 dX5_crew_22 (by decide) ?_
      exact wL26 ρ x1 x2 (2 : Int32) _ _ _ hF hw hS (kh_sub hl [0, 1, 2] rfl)
  · have hF := kh_ift hF c_10
    refine lv_iconst (v := (1 : Int32)) C.1 C.2.1 dX5_crew_8 (by decide) ?_
    refine lv_goto (tgt := 26) C.1 C.2.1 dX5_crew_9 (by decide) ?_
    exact wL26 ρ x1 x2 (1 : Int32) _ _ _ hF hw hS (kh_sub hl [0, 1, 2] rfl)

def f_X5_booking_L82 (ρ_82 : kh_S) (t0_82 : Int32) : Option (Int32 × kh_S) := some (t0_82, ρ_82)
def f_X5_booking_L27 (ρ_27 : kh_S) (x1_27 : Int32) (x2_27 : Int32) (t1_27 : Int32) : Option (Int32 × kh_S) := kh_bd2 (f_X5_refused ρ_27 t1_27) (fun r_1 ρ_1 => if r_1 = 0 then if x2_27 = 0 then kh_gd (kh_in x1_27 30) (f_X5_booking_L82 ρ_1 (ρ_1 48 0 0 x1_27.toNatClampNeg)) else if x2_27 = (1 : Int32) then kh_gd (kh_in x1_27 30) (f_X5_booking_L82 ρ_1 (ρ_1 49 0 0 x1_27.toNatClampNeg)) else if x2_27 = (2 : Int32) then kh_gd (kh_in x1_27 30) (f_X5_booking_L82 ρ_1 (ρ_1 50 0 0 x1_27.toNatClampNeg)) else kh_gd (kh_in x1_27 30) (f_X5_booking_L82 ρ_1 (ρ_1 51 0 0 x1_27.toNatClampNeg)) else some ((0 : Int32), ρ_1))
def f_X5_booking (ρ : kh_S) (x1 : Int32) (x2 : Int32) : Option (Int32 × kh_S) := kh_bd (f_X5_isBooking ρ x1) (fun r_10 => if r_10 = 0 then f_X5_booking_L27 ρ x1 x2 (1 : Int32) else kh_bd (f_X5_in ρ x2 (0 : Int32) (3 : Int32)) (fun r_12 => if r_12 = 0 then f_X5_booking_L27 ρ x1 x2 (2 : Int32) else f_X5_booking_L27 ρ x1 x2 (0 : Int32)))
set_option maxHeartbeats 4000000 in
set_option maxRecDepth 100000 in
theorem c_X5_booking (l : Launch) (D : va_G) (ca : Nat → ClassId) (A : Nat → Prop) (ad : Nat → Nat → Nat) (ρ : kh_S) (x1 : Int32) (x2 : Int32) {q0 : Int32 × kh_S} (hF0 : f_X5_booking ρ x1 x2 = some q0) : Met l yX5_booking wsX5_booking ({ frames := 2, cells := 0, slots := 0, locals := 43 } : Room) (va_Pc [.ref (ad 15 0), .int x1, .int x2] (kh_I D ca A ad ρ)) (kh_Qi D ca A ad (f_X5_booking ρ x1 x2)) 0 0 A := by
  refine Met.ofW (cc := cX5_booking) (maxL := 3) (ret := (some .int)) (by decide) rfl ?_
  intro p e s m args below meth c s₁ B hml hv
  obtain ⟨rfl, hK, hw, hA⟩ := hv
  have C : kh_C p s m ([.ref (ad 15 0), .int x1, .int x2]).toArray c cX5_booking 3 RX5 wsX5_booking D ca A := ⟨B.exec, B.bytes, hml, findClass_of_methodNamed B.named, atoms_spec (ws := wsX5_booking) B.pre, hK, hA⟩
  have hr := B.returns
  have hlocks := B.notSynchronized
  have hS : va_S A s.heap s.heap [] := va_S.rf
  have hl := kh_entry ([.ref (ad 15 0), .int x1, .int x2]) (n := 3) (kh_ac rfl (kh_ac rfl (kh_ac rfl kh_an))) (Nat.le_of_ble_eq_true rfl)
  rw [lg_entry_eq]
  generalize (lg_sl ([.ref (ad 15 0), .int x1, .int x2]) ++ List.replicate (3 - (lg_sl ([.ref (ad 15 0), .int x1, .int x2])).length) Slot.unset).toArray = ls at hl ⊢
  have hl : kh_lv ls 3 [(0, .ref (ad 15 0)), (1, .int x1), (2, .int x2)] := hl
  have k_86 := C.2.2.2.2.1 (.fieldLink RX5 86 "KeylessHallModel" "bookGroup" "[I") (by decide +kernel)
  have k_83 := C.2.2.2.2.1 (.fieldLink RX5 83 "KeylessHallModel" "bookHow" "[I") (by decide +kernel)
  have k_80 := C.2.2.2.2.1 (.fieldLink RX5 80 "KeylessHallModel" "bookMinute" "[I") (by decide +kernel)
  have k_77 := C.2.2.2.2.1 (.fieldLink RX5 77 "KeylessHallModel" "bookRoom" "[I") (by decide +kernel)
  have hF := hF0
  unfold f_X5_booking at hF
  have wL82 : ∀ (ρ_82 : kh_S) (t0_82 : Int32) (H : Heap) (locs : List Loc) (ls : Array Slot), f_X5_booking_L82 ρ_82 t0_82 = some q0 → kh_w D ca A ad ρ_82 H → va_S A s.heap H locs → kh_lv ls 3 [] → W p l e (headSpec wsX5_booking ({ frames := 2, cells := 0, slots := 0, locals := 43 } : Room)).room s m ([.ref (ad 15 0), .int x1, .int x2]).toArray below meth c H locs 0 0 (MQ below (kh_Qi D ca A ad (f_X5_booking ρ x1 x2)) ([.ref (ad 15 0), .int x1, .int x2]).toArray s 0 0 A) (F0 m 82 ls [.int t0_82]) := by
    intro ρ_82 t0_82 H locs ls hF hw hS hl
    unfold f_X5_booking_L82 at hF
    exact W.iret (v := t0_82) C.1 C.2.1 hr (fun t ht hW => ⟨⟨t0_82, ρ_82, rfl, hF0.trans hF.symm, kh_bk ht hw⟩, hS.F ht⟩) hS.2.2 dX5_booking_82
  have wL27 : ∀ (ρ_27 : kh_S) (x1_27 : Int32) (x2_27 : Int32) (t1_27 : Int32) (H : Heap) (locs : List Loc) (ls : Array Slot), f_X5_booking_L27 ρ_27 x1_27 x2_27 t1_27 = some q0 → kh_w D ca A ad ρ_27 H → va_S A s.heap H locs → kh_lv ls 3 [(0, .ref (ad 15 0)), (1, .int x1_27), (2, .int x2_27)] → W p l e (headSpec wsX5_booking ({ frames := 2, cells := 0, slots := 0, locals := 43 } : Room)).room s m ([.ref (ad 15 0), .int x1, .int x2]).toArray below meth c H locs 0 0 (MQ below (kh_Qi D ca A ad (f_X5_booking ρ x1 x2)) ([.ref (ad 15 0), .int x1, .int x2]).toArray s 0 0 A) (F0 m 27 ls [.int t1_27, .ref (ad 15 0)]) := by
    intro ρ_27 x1_27 x2_27 t1_27 H locs ls hF hw hS hl
    unfold f_X5_booking_L27 at hF
    obtain ⟨r_1, ρ_1, h_1, hF⟩ := kh_bd2_ok hF
    refine kh_calli (va_runV (As := [.int t1_27]) (rest := []) ⟨C.1, C.2.1, C.2.2.1, C.2.2.2.1, C.2.2.2.2.1⟩ (c_X5_refused l D ca A ad ρ_27 t1_27 h_1) (cwV 1 C.2.2.2.2.1 gX5_booking_X5_refused rfl rfl rfl (by decide +kernel) ⟨Nat.le_of_ble_eq_true rfl, Nat.le_of_ble_eq_true rfl⟩) (kh_preV C hw hS 15 (kh_z15 ρ_27) kh_kd15 rfl) rfl rfl hl.1.1 rfl (lv_room (kh_sum kh_an (Nat.le_of_ble_eq_true rfl))) dX5_booking_27 ⟨Nat.le_of_ble_eq_true rfl, Nat.le_of_ble_eq_true rfl⟩) hS h_1 (fun H locs hw hS => ?_)
    refine lv_if_eq (tgt := 35) C.1 C.2.1 dX5_booking_30 (by decide) (fun c_2 => ?_) (fun c_2 => ?_)
    · have hF := kh_ift hF c_2
      refine lv_iload_n C.1 C.2.1 dX5_booking_35 rfl (kh_at hl 2 rfl) ?_
      refine lv_if_ne (tgt := 48) C.1 C.2.1 dX5_booking_36 (by decide) (fun c_3 => ?_) (fun c_3 => ?_)
      · have hF := kh_iff hF c_3
        refine lv_iload_n C.1 C.2.1 dX5_booking_48 rfl (kh_at hl 2 rfl) ?_
        refine lv_iconst (v := (1 : Int32)) C.1 C.2.1 dX5_booking_49 (by decide) ?_
        refine lv_icmp_ne (tgt := 62) C.1 C.2.1 dX5_booking_50 (by decide) (fun c_4 => ?_) (fun c_4 => ?_)
        · have hF := kh_iff hF c_4
          refine lv_iload_n C.1 C.2.1 dX5_booking_62 rfl (kh_at hl 2 rfl) ?_
          refine lv_iconst (v := (2 : Int32)) C.1 C.2.1 dX5_booking_63 (by decide) ?_
          refine lv_icmp_ne (tgt := 76) C.1 C.2.1 dX5_booking_64 (by decide) (fun c_5 => ?_) (fun c_5 => ?_)
          · have hF := kh_iff hF c_5
            refine lv_aload_n C.1 C.2.1 dX5_booking_76 rfl (kh_at hl 0 rfl) ?_
            refine kh_get C hw 15 31 rfl (kh_z15 ρ_1) kh_kd15 (Cn := RX5) (T := TX5) (N := 33) rfl (Nat.le_of_ble_eq_true rfl) k_86 (kf_15_31 ad ρ_1 0) dX5_booking_77 ?_
            refine lv_iload_n C.1 C.2.1 dX5_booking_80 rfl (kh_at hl 1 rfl) ?_
            obtain ⟨g_6, hF⟩ := kh_gd_ok hF
            refine kh_iald C hw 51 rfl (kh_z51 ρ_1) kh_kd51 g_6 dX5_booking_81 ?_
            exact wL82 ρ_1 (ρ_1 51 0 0 x1_27.toNatClampNeg) _ _ _ hF hw hS (kh_sub hl [] rfl)
          · have hF := kh_ift hF c_5
            refine lv_aload_n C.1 C.2.1 dX5_booking_67 rfl (kh_at hl 0 rfl) ?_
            refine kh_get C hw 15 30 rfl (kh_z15 ρ_1) kh_kd15 (Cn := RX5) (T := TX5) (N := 33) rfl (Nat.le_of_ble_eq_true rfl) k_83 (kf_15_30 ad ρ_1 0) dX5_booking_68 ?_
            refine lv_iload_n C.1 C.2.1 dX5_booking_71 rfl (kh_at hl 1 rfl) ?_
            obtain ⟨g_7, hF⟩ := kh_gd_ok hF
            refine kh_iald C hw 50 rfl (kh_z50 ρ_1) kh_kd50 g_7 dX5_booking_72 ?_
            refine lv_goto (tgt := 82) C.1 C.2.1 dX5_booking_73 (by decide) ?_
            exact wL82 ρ_1 (ρ_1 50 0 0 x1_27.toNatClampNeg) _ _ _ hF hw hS (kh_sub hl [] rfl)
        · have hF := kh_ift hF c_4
          refine lv_aload_n C.1 C.2.1 dX5_booking_53 rfl (kh_at hl 0 rfl) ?_
          refine kh_get C hw 15 29 rfl (kh_z15 ρ_1) kh_kd15 (Cn := RX5) (T := TX5) (N := 33) rfl (Nat.le_of_ble_eq_true rfl) k_80 (kf_15_29 ad ρ_1 0) dX5_booking_54 ?_
          refine lv_iload_n C.1 C.2.1 dX5_booking_57 rfl (kh_at hl 1 rfl) ?_
          obtain ⟨g_8, hF⟩ := kh_gd_ok hF
          refine kh_iald C hw 49 rfl (kh_z49 ρ_1) kh_kd49 g_8 dX5_booking_58 ?_
          refine lv_goto (tgt := 82) C.1 C.2.1 dX5_booking_59 (by decide) ?_
          exact wL82 ρ_1 (ρ_1 49 0 0 x1_27.toNatClampNeg) _ _ _ hF hw hS (kh_sub hl [] rfl)
      · have hF := kh_ift hF c_3
        refine lv_aload_n C.1 C.2.1 dX5_booking_39 rfl (kh_at hl 0 rfl) ?_
        refine kh_get C hw 15 28 rfl (kh_z15 ρ_1) kh_kd15 (Cn := RX5) (T := TX5) (N := 33) rfl (Nat.le_of_ble_eq_true rfl) k_77 (kf_15_28 ad ρ_1 0) dX5_booking_40 ?_
        refine lv_iload_n C.1 C.2.1 dX5_booking_43 rfl (kh_at hl 1 rfl) ?_
        obtain ⟨g_9, hF⟩ := kh_gd_ok hF
        refine kh_iald C hw 48 rfl (kh_z48 ρ_1) kh_kd48 g_9 dX5_booking_44 ?_
        refine lv_goto (tgt := 82) C.1 C.2.1 dX5_booking_45 (by decide) ?_
        exact wL82 ρ_1 (ρ_1 48 0 0 x1_27.toNatClampNeg) _ _ _ hF hw hS (kh_sub hl [] rfl)
    · have hF := kh_iff hF c_2
      refine lv_iconst (v := (0 : Int32)) C.1 C.2.1 dX5_booking_33 (by decide) ?_
      exact W.iret (v := (0 : Int32)) C.1 C.2.1 hr (fun t ht hW => ⟨⟨(0 : Int32), ρ_1, rfl, hF0.trans hF.symm, kh_bk ht hw⟩, hS.F ht⟩) hS.2.2 dX5_booking_34
  refine lv_aload_n C.1 C.2.1 dX5_booking_0 rfl (kh_at hl 0 rfl) ?_
  refine lv_aload_n C.1 C.2.1 dX5_booking_1 rfl (kh_at hl 0 rfl) ?_
  refine lv_iload_n C.1 C.2.1 dX5_booking_2 rfl (kh_at hl 1 rfl) ?_
  obtain ⟨r_10, h_10, hF⟩ := kh_bd_ok hF
  refine kh_calli (va_runV (As := [.int x1]) (rest := [.ref (ad 15 0)]) ⟨C.1, C.2.1, C.2.2.1, C.2.2.2.1, C.2.2.2.2.1⟩ (c_X5_isBooking l D ca A ad ρ x1 h_10) (cwV 1 C.2.2.2.2.1 gX5_booking_X5_isBooking rfl rfl rfl (by decide +kernel) ⟨Nat.le_of_ble_eq_true rfl, Nat.le_of_ble_eq_true rfl⟩) (kh_preV C hw hS 15 (kh_z15 ρ) kh_kd15 rfl) rfl rfl hl.1.1 rfl (lv_room (kh_sum (kh_ac rfl kh_an) (Nat.le_of_ble_eq_true rfl))) dX5_booking_3 ⟨Nat.le_of_ble_eq_true rfl, Nat.le_of_ble_eq_true rfl⟩) hS (kh_mp h_10) (fun H locs hw hS => ?_)
  refine lv_if_ne (tgt := 13) C.1 C.2.1 dX5_booking_6 (by decide) (fun c_11 => ?_) (fun c_11 => ?_)
  · have hF := kh_iff hF c_11
    refine lv_iload_n C.1 C.2.1 dX5_booking_13 rfl (kh_at hl 2 rfl) ?_
    refine lv_iconst (v := (0 : Int32)) C.1 C.2.1 dX5_booking_14 (by decide) ?_
    refine lv_iconst (v := (3 : Int32)) C.1 C.2.1 dX5_booking_15 (by decide) ?_
    obtain ⟨r_12, h_12, hF⟩ := kh_bd_ok hF
    refine kh_calli (va_runS (As := [.int x2, .int (0 : Int32), .int (3 : Int32)]) (rest := [.ref (ad 15 0)]) ⟨C.1, C.2.1, C.2.2.1, C.2.2.2.1, C.2.2.2.2.1⟩ (c_X5_in l D ca A ad ρ x2 (0 : Int32) (3 : Int32) h_12) (va_cwS 3 C.2.2.2.2.1 gX5_booking_X5_in rfl rfl rfl (by decide +kernel) ⟨Nat.le_of_ble_eq_true rfl, Nat.le_of_ble_eq_true rfl⟩) (kh_preS C hw hS) rfl rfl hl.1.1 rfl (lv_room (kh_sum (kh_ac rfl kh_an) (Nat.le_of_ble_eq_true rfl))) dX5_booking_16 ⟨Nat.le_of_ble_eq_true rfl, Nat.le_of_ble_eq_true rfl⟩) hS (kh_mp h_12) (fun H locs hw hS => ?_)
    refine lv_if_ne (tgt := 26) C.1 C.2.1 dX5_booking_19 (by decide) (fun c_13 => ?_) (fun c_13 => ?_)
    · have hF := kh_iff hF c_13
      refine lv_iconst (v := (0 : Int32)) C.1 C.2.1 dX5_booking_26 (by decide) ?_
      exact wL27 ρ x1 x2 (0 : Int32) _ _ _ hF hw hS (kh_sub hl [0, 1, 2] rfl)
    · have hF := kh_ift hF c_13
      refine lv_iconst (v := (2 : Int32)) C.1 C.2.1 dX5_booking_22 (by decide) ?_
      refine lv_goto (tgt := 27) C.1 C.2.1 dX5_booking_23 (by decide) ?_
      exact wL27 ρ x1 x2 (2 : Int32) _ _ _ hF hw hS (kh_sub hl [0, 1, 2] rfl)
  · have hF := kh_ift hF c_11
    refine lv_iconst (v := (1 : Int32)) C.1 C.2.1 dX5_booking_9 (by decide) ?_
    refine lv_goto (tgt := 27) C.1 C.2.1 dX5_booking_10 (by decide) ?_
    exact wL27 ρ x1 x2 (1 : Int32) _ _ _ hF hw hS (kh_sub hl [0, 1, 2] rfl)

