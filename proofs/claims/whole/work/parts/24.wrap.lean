/-! the law's own methods -/
theorem kh_ptS {x : Option (String ⊕ Int32)} {ρ : kh_S} {y : (String × kh_S) ⊕ (Int32 × kh_S)} (h : kh_pt x ρ = some y) : ∃ q, x = some q := by
  cases x with
  | none => cases h
  | some a => exact ⟨a, rfl⟩
noncomputable def f_L_room (ρ : kh_S) (x1 : Int32) : Option (Int32 × kh_S) := kh_hx (f_X4_room ρ x1) (fun E => if E = kh_E1 then some (1 : Int32) else (if E = kh_E2 then some (2 : Int32) else none)) (fun r => some ((0 : Int32), kh_up r.2 60 0 0 (0 : Int32).toNatClampNeg r.1))
set_option maxHeartbeats 4000000 in
set_option maxRecDepth 100000 in
theorem c_L_room (l : Launch) (hlt : l.stackTraces = false) (D : va_G) (ca : Nat → ClassId) (A : Nat → Prop) (ad : Nat → Nat → Nat) (ρ : kh_S) (x1 : Int32) {q0 : Int32 × kh_S} (hF0 : f_L_room ρ x1 = some q0) : Met l yL_room wsL_room ({ frames := 7, cells := 5, slots := 45, locals := 112 } : Room) (va_Pc [.ref (ad 0 0), .int x1, .ref (ad 60 0)] (kh_JL D ca A ad ρ)) (kh_QiN D ca A ad ρ (f_L_room ρ x1)) 5 45 A := by
  refine kh_ofWH (cc := cL_room) (maxL := 4) (ret := some .int) (hh := [(0, 9, 12, 13), (0, 9, 15, 15)]) (by decide) rfl ?_
  intro p e s m args below meth c s₁ B hml htb hv
  obtain ⟨rfl, ⟨⟨hK, hw, hA⟩, hT⟩, hN⟩ := hv
  have C : kh_C p s m ([.ref (ad 0 0), .int x1, .ref (ad 60 0)]).toArray c cL_room 4 RL wsL_room D ca A := ⟨B.exec, B.bytes, hml, findClass_of_methodNamed B.named, atoms_spec (ws := wsL_room) B.pre, hK, hA⟩
  have hr := B.returns
  have hlocks := B.notSynchronized
  have hS : va_S A s.heap s.heap [] := va_S.rf
  have hl := kh_entry ([.ref (ad 0 0), .int x1, .ref (ad 60 0)]) (n := 4) (kh_ac rfl (kh_ac rfl (kh_ac rfl kh_an))) (Nat.le_of_ble_eq_true rfl)
  rw [lg_entry_eq]
  generalize (lg_sl ([.ref (ad 0 0), .int x1, .ref (ad 60 0)]) ++ List.replicate (4 - (lg_sl ([.ref (ad 0 0), .int x1, .ref (ad 60 0)])).length) Slot.unset).toArray = ls at hl ⊢
  have hl : kh_lv ls 4 [(0, .ref (ad 0 0)), (1, .int x1), (2, .ref (ad 60 0))] := hl
  have hF := hF0
  unfold f_L_room at hF
  refine lv_aload_n C.1 C.2.1 dL_room_0 rfl (kh_at hl 2 rfl) ?_
  refine lv_iconst (v := (0 : Int32)) C.1 C.2.1 dL_room_1 (by decide) ?_
  refine lv_aload_n C.1 C.2.1 dL_room_2 rfl (kh_at hl 0 rfl) ?_
  refine lv_iload_n C.1 C.2.1 dL_room_3 rfl (kh_at hl 1 rfl) ?_
  rcases kh_hx_ok hF with ⟨E, ρ1, h9, hg, hy⟩ | ⟨⟨r9, ρ1⟩, h9, hF⟩
  · refine kh_xcallX (vx_runV (As := [.int x1]) (rest := [.int (0 : Int32), .ref (ad 60 0)]) ⟨C.1, C.2.1, C.2.2.1, C.2.2.2.1, C.2.2.2.2.1⟩ (c_X4_room l hlt D ca A ad ρ x1 h9) (cwV 1 C.2.2.2.2.1 gL_room_X4_room rfl rfl rfl (by decide +kernel) ⟨Nat.le_of_ble_eq_true rfl, Nat.le_of_ble_eq_true rfl⟩) (kh_preVJ C hT hw hS 0 (kh_z0 ρ) kh_kd0 rfl) rfl rfl hl.1.1 rfl (lv_room (kh_sum (kh_ac rfl (kh_ac rfl kh_an)) (Nat.le_of_ble_eq_true rfl))) dL_room_4 ⟨Nat.le_of_ble_eq_true rfl, Nat.le_of_ble_eq_true rfl⟩) hS h9 (kh_notYiN h9) (fun H locs ce q9 hw hS g7 g8 g9 => ?_)
    have hF : (if E = kh_E1 then some (1 : Int32) else (if E = kh_E2 then some (2 : Int32) else none)) = some q0.1 := hg
    by_cases c0 : E = kh_E1
    · have hF := kh_ift hF c0
      refine vx_catch (E := kh_E1) (name := kh_E1) C.2.2.2.1 [] ⟨0, 9, 12, 13⟩ [⟨0, 9, 15, 15⟩] htb (fun z hz => absurd hz List.not_mem_nil) (by decide) (by decide) (C.2.2.2.2.1 (.classLink RL 13 kh_E1) (by decide +kernel)) (va_Nw.use rfl hT.2.2.2.1.2.1) g7 g8 (by rw [← c0]; exact g9) ?_
      refine lv_astore_n C.1 C.2.1 dL_room_12 rfl hl.1 (by decide) rfl (fun ls h6 => ?_)
      refine lv_iconst (v := (1 : Int32)) C.1 C.2.1 dL_room_13 (by decide) ?_
      refine W.widen (k := 5) (n := 45) (Nat.le_of_ble_eq_true rfl) (Nat.le_of_ble_eq_true rfl) ?_
      exact W.iret (v := (1 : Int32)) C.1 C.2.1 hr (fun t ht hW => ⟨⟨(1 : Int32), (ad, ρ1), rfl, ⟨hF0.trans (congrArg some (Prod.ext (Option.some.inj hF).symm hy)), kh_agr ad ρ⟩, kh_bk ht hw⟩, hS.F ht⟩) hS.2.2 dL_room_14
    have hF := kh_iff hF c0
    by_cases c1 : E = kh_E2
    · have hF := kh_ift hF c1
      refine vx_catch (E := kh_E2) (name := kh_E2) C.2.2.2.1 [⟨0, 9, 12, 13⟩] ⟨0, 9, 15, 15⟩ [] htb (List.forall_mem_cons.mpr ⟨Or.inr ⟨by decide, kh_E1, C.2.2.2.2.1 (.classLink RL 13 kh_E1) (by decide +kernel), hN.1⟩, (fun z hz => absurd hz List.not_mem_nil)⟩) (by decide) (by decide) (C.2.2.2.2.1 (.classLink RL 15 kh_E2) (by decide +kernel)) (va_Nw.use rfl hT.2.2.2.2.1.2.1) g7 g8 (by rw [← c1]; exact g9) ?_
      refine lv_astore_n C.1 C.2.1 dL_room_15 rfl hl.1 (by decide) rfl (fun ls h6 => ?_)
      refine lv_iconst (v := (2 : Int32)) C.1 C.2.1 dL_room_16 (by decide) ?_
      refine W.widen (k := 5) (n := 45) (Nat.le_of_ble_eq_true rfl) (Nat.le_of_ble_eq_true rfl) ?_
      exact W.iret (v := (2 : Int32)) C.1 C.2.1 hr (fun t ht hW => ⟨⟨(2 : Int32), (ad, ρ1), rfl, ⟨hF0.trans (congrArg some (Prod.ext (Option.some.inj hF).symm hy)), kh_agr ad ρ⟩, kh_bk ht hw⟩, hS.F ht⟩) hS.2.2 dL_room_17
    have hF := kh_iff hF c1
    exact absurd hF (fun z => nomatch z)
  refine kh_xcallN (vx_runV (As := [.int x1]) (rest := [.int (0 : Int32), .ref (ad 60 0)]) ⟨C.1, C.2.1, C.2.2.1, C.2.2.2.1, C.2.2.2.2.1⟩ (c_X4_room l hlt D ca A ad ρ x1 h9) (cwV 1 C.2.2.2.2.1 gL_room_X4_room rfl rfl rfl (by decide +kernel) ⟨Nat.le_of_ble_eq_true rfl, Nat.le_of_ble_eq_true rfl⟩) (kh_preVJ C hT hw hS 0 (kh_z0 ρ) kh_kd0 rfl) rfl rfl hl.1.1 rfl (lv_room (kh_sum (kh_ac rfl (kh_ac rfl kh_an)) (Nat.le_of_ble_eq_true rfl))) dL_room_4 ⟨Nat.le_of_ble_eq_true rfl, Nat.le_of_ble_eq_true rfl⟩) hS h9 (fun ad2 H locs hag hw hS => ?_)
  refine lv_i2l (v := r9.toInt64) C.1 C.2.1 dL_room_7 rfl ?_
  refine kh_last C hw hS 60 (x := r9) (congrArg Value.ref (hag 60 0 (kh_z60 ρ)).symm) (kh_z60 ρ1) (by decide) kh_kd60 (by decide) rfl dL_room_8 (fun H locs hw hS => ?_)
  refine lv_goto (tgt := 18) C.1 C.2.1 dL_room_9 (by decide) ?_
  refine lv_iconst (v := (0 : Int32)) C.1 C.2.1 dL_room_18 (by decide) ?_
  refine W.widen (k := 5) (n := 45) (Nat.le_of_ble_eq_true rfl) (Nat.le_of_ble_eq_true rfl) ?_
  exact W.iret (v := (0 : Int32)) C.1 C.2.1 hr (fun t ht hW => ⟨⟨(0 : Int32), (ad2, kh_up ρ1 60 0 0 (0 : Int32).toNatClampNeg r9), rfl, ⟨hF0.trans hF.symm, hag⟩, kh_bk ht hw⟩, hS.F ht⟩) hS.2.2 dL_room_19

def f_L_puzzle (ρ : kh_S) (x1 : Int32) (x2 : Int32) (x3 : Int32) (x4 : Int32) (x5 : Int32) : Option (Int32 × kh_S) := kh_hx (f_X4_puzzle ρ x1 x2 x3 x4 x5) (fun E => if E = kh_E3 then some (1 : Int32) else (if E = kh_E1 then some (2 : Int32) else (if E = kh_E2 then some (3 : Int32) else none))) (fun r => some ((0 : Int32), kh_up r.2 60 0 0 (0 : Int32).toNatClampNeg r.1))
set_option maxHeartbeats 4000000 in
set_option maxRecDepth 100000 in
theorem c_L_puzzle (l : Launch) (hlt : l.stackTraces = false) (D : va_G) (ca : Nat → ClassId) (A : Nat → Prop) (ad : Nat → Nat → Nat) (ρ : kh_S) (x1 : Int32) (x2 : Int32) (x3 : Int32) (x4 : Int32) (x5 : Int32) {q0 : Int32 × kh_S} (hF0 : f_L_puzzle ρ x1 x2 x3 x4 x5 = some q0) : Met l yL_puzzle wsL_puzzle ({ frames := 8, cells := 2, slots := 12, locals := 137 } : Room) (va_Pc [.ref (ad 0 0), .int x1, .int x2, .int x3, .int x4, .int x5, .ref (ad 60 0)] (kh_JL D ca A ad ρ)) (kh_Qi D ca A ad (f_L_puzzle ρ x1 x2 x3 x4 x5)) 2 12 A := by
  refine kh_ofWH (cc := cL_puzzle) (maxL := 8) (ret := some .int) (hh := [(0, 16, 19, 21), (0, 16, 23, 13), (0, 16, 27, 15)]) (by decide) rfl ?_
  intro p e s m args below meth c s₁ B hml htb hv
  obtain ⟨rfl, ⟨⟨hK, hw, hA⟩, hT⟩, hN⟩ := hv
  have C : kh_C p s m ([.ref (ad 0 0), .int x1, .int x2, .int x3, .int x4, .int x5, .ref (ad 60 0)]).toArray c cL_puzzle 8 RL wsL_puzzle D ca A := ⟨B.exec, B.bytes, hml, findClass_of_methodNamed B.named, atoms_spec (ws := wsL_puzzle) B.pre, hK, hA⟩
  have hr := B.returns
  have hlocks := B.notSynchronized
  have hS : va_S A s.heap s.heap [] := va_S.rf
  have hl := kh_entry ([.ref (ad 0 0), .int x1, .int x2, .int x3, .int x4, .int x5, .ref (ad 60 0)]) (n := 8) (kh_ac rfl (kh_ac rfl (kh_ac rfl (kh_ac rfl (kh_ac rfl (kh_ac rfl (kh_ac rfl kh_an))))))) (Nat.le_of_ble_eq_true rfl)
  rw [lg_entry_eq]
  generalize (lg_sl ([.ref (ad 0 0), .int x1, .int x2, .int x3, .int x4, .int x5, .ref (ad 60 0)]) ++ List.replicate (8 - (lg_sl ([.ref (ad 0 0), .int x1, .int x2, .int x3, .int x4, .int x5, .ref (ad 60 0)])).length) Slot.unset).toArray = ls at hl ⊢
  have hl : kh_lv ls 8 [(0, .ref (ad 0 0)), (1, .int x1), (2, .int x2), (3, .int x3), (4, .int x4), (5, .int x5), (6, .ref (ad 60 0))] := hl
  have hF := hF0
  unfold f_L_puzzle at hF
  refine lv_aload C.1 C.2.1 dL_puzzle_0 (kh_at hl 6 rfl) ?_
  refine lv_iconst (v := (0 : Int32)) C.1 C.2.1 dL_puzzle_2 (by decide) ?_
  refine lv_aload_n C.1 C.2.1 dL_puzzle_3 rfl (kh_at hl 0 rfl) ?_
  refine lv_iload_n C.1 C.2.1 dL_puzzle_4 rfl (kh_at hl 1 rfl) ?_
  refine lv_iload_n C.1 C.2.1 dL_puzzle_5 rfl (kh_at hl 2 rfl) ?_
  refine lv_iload_n C.1 C.2.1 dL_puzzle_6 rfl (kh_at hl 3 rfl) ?_
  refine lv_iload C.1 C.2.1 dL_puzzle_7 (kh_at hl 4 rfl) ?_
  refine lv_iload C.1 C.2.1 dL_puzzle_9 (kh_at hl 5 rfl) ?_
  rcases kh_hx_ok hF with ⟨E, ρ1, h9, hg, hy⟩ | ⟨⟨r9, ρ1⟩, h9, hF⟩
  · refine kh_xcallX (vx_runV (As := [.int x1, .int x2, .int x3, .int x4, .int x5]) (rest := [.int (0 : Int32), .ref (ad 60 0)]) ⟨C.1, C.2.1, C.2.2.1, C.2.2.2.1, C.2.2.2.2.1⟩ (c_X4_puzzle l hlt D ca A ad ρ x1 x2 x3 x4 x5 h9) (cwV 5 C.2.2.2.2.1 gL_puzzle_X4_puzzle rfl rfl rfl (by decide +kernel) ⟨Nat.le_of_ble_eq_true rfl, Nat.le_of_ble_eq_true rfl⟩) (kh_preVJ C hT hw hS 0 (kh_z0 ρ) kh_kd0 rfl) rfl rfl hl.1.1 rfl (lv_room (kh_sum (kh_ac rfl (kh_ac rfl kh_an)) (Nat.le_of_ble_eq_true rfl))) dL_puzzle_11 ⟨Nat.le_of_ble_eq_true rfl, Nat.le_of_ble_eq_true rfl⟩) hS h9 (kh_notYi h9) (fun H locs ce q9 hw hS g7 g8 g9 => ?_)
    have hF : (if E = kh_E3 then some (1 : Int32) else (if E = kh_E1 then some (2 : Int32) else (if E = kh_E2 then some (3 : Int32) else none))) = some q0.1 := hg
    by_cases c0 : E = kh_E3
    · have hF := kh_ift hF c0
      refine vx_catch (E := kh_E3) (name := kh_E3) C.2.2.2.1 [] ⟨0, 16, 19, 21⟩ [⟨0, 16, 23, 13⟩, ⟨0, 16, 27, 15⟩] htb (fun z hz => absurd hz List.not_mem_nil) (by decide) (by decide) (C.2.2.2.2.1 (.classLink RL 21 kh_E3) (by decide +kernel)) (va_Nw.use rfl hT.2.2.2.2.2.2.1) g7 g8 (by rw [← c0]; exact g9) ?_
      refine lv_astore C.1 C.2.1 dL_puzzle_19 hl.1 (by decide) rfl (fun ls h6 => ?_)
      refine lv_iconst (v := (1 : Int32)) C.1 C.2.1 dL_puzzle_21 (by decide) ?_
      refine W.widen (k := 2) (n := 12) (Nat.le_of_ble_eq_true rfl) (Nat.le_of_ble_eq_true rfl) ?_
      exact W.iret (v := (1 : Int32)) C.1 C.2.1 hr (fun t ht hW => ⟨⟨(1 : Int32), ρ1, rfl, hF0.trans (congrArg some (Prod.ext (Option.some.inj hF).symm hy)), kh_bk ht hw⟩, hS.F ht⟩) hS.2.2 dL_puzzle_22
    have hF := kh_iff hF c0
    by_cases c1 : E = kh_E1
    · have hF := kh_ift hF c1
      refine vx_catch (E := kh_E1) (name := kh_E1) C.2.2.2.1 [⟨0, 16, 19, 21⟩] ⟨0, 16, 23, 13⟩ [⟨0, 16, 27, 15⟩] htb (List.forall_mem_cons.mpr ⟨Or.inr ⟨by decide, kh_E3, C.2.2.2.2.1 (.classLink RL 21 kh_E3) (by decide +kernel), hN.2.1⟩, (fun z hz => absurd hz List.not_mem_nil)⟩) (by decide) (by decide) (C.2.2.2.2.1 (.classLink RL 13 kh_E1) (by decide +kernel)) (va_Nw.use rfl hT.2.2.2.1.2.1) g7 g8 (by rw [← c1]; exact g9) ?_
      refine lv_astore C.1 C.2.1 dL_puzzle_23 hl.1 (by decide) rfl (fun ls h6 => ?_)
      refine lv_iconst (v := (2 : Int32)) C.1 C.2.1 dL_puzzle_25 (by decide) ?_
      refine W.widen (k := 2) (n := 12) (Nat.le_of_ble_eq_true rfl) (Nat.le_of_ble_eq_true rfl) ?_
      exact W.iret (v := (2 : Int32)) C.1 C.2.1 hr (fun t ht hW => ⟨⟨(2 : Int32), ρ1, rfl, hF0.trans (congrArg some (Prod.ext (Option.some.inj hF).symm hy)), kh_bk ht hw⟩, hS.F ht⟩) hS.2.2 dL_puzzle_26
    have hF := kh_iff hF c1
    by_cases c2 : E = kh_E2
    · have hF := kh_ift hF c2
      refine vx_catch (E := kh_E2) (name := kh_E2) C.2.2.2.1 [⟨0, 16, 19, 21⟩, ⟨0, 16, 23, 13⟩] ⟨0, 16, 27, 15⟩ [] htb (List.forall_mem_cons.mpr ⟨Or.inr ⟨by decide, kh_E3, C.2.2.2.2.1 (.classLink RL 21 kh_E3) (by decide +kernel), hN.2.2⟩, (List.forall_mem_cons.mpr ⟨Or.inr ⟨by decide, kh_E1, C.2.2.2.2.1 (.classLink RL 13 kh_E1) (by decide +kernel), hN.1⟩, (fun z hz => absurd hz List.not_mem_nil)⟩)⟩) (by decide) (by decide) (C.2.2.2.2.1 (.classLink RL 15 kh_E2) (by decide +kernel)) (va_Nw.use rfl hT.2.2.2.2.1.2.1) g7 g8 (by rw [← c2]; exact g9) ?_
      refine lv_astore C.1 C.2.1 dL_puzzle_27 hl.1 (by decide) rfl (fun ls h6 => ?_)
      refine lv_iconst (v := (3 : Int32)) C.1 C.2.1 dL_puzzle_29 (by decide) ?_
      refine W.widen (k := 2) (n := 12) (Nat.le_of_ble_eq_true rfl) (Nat.le_of_ble_eq_true rfl) ?_
      exact W.iret (v := (3 : Int32)) C.1 C.2.1 hr (fun t ht hW => ⟨⟨(3 : Int32), ρ1, rfl, hF0.trans (congrArg some (Prod.ext (Option.some.inj hF).symm hy)), kh_bk ht hw⟩, hS.F ht⟩) hS.2.2 dL_puzzle_30
    have hF := kh_iff hF c2
    exact absurd hF (fun z => nomatch z)
  refine kh_xcalli (vx_runV (As := [.int x1, .int x2, .int x3, .int x4, .int x5]) (rest := [.int (0 : Int32), .ref (ad 60 0)]) ⟨C.1, C.2.1, C.2.2.1, C.2.2.2.1, C.2.2.2.2.1⟩ (c_X4_puzzle l hlt D ca A ad ρ x1 x2 x3 x4 x5 h9) (cwV 5 C.2.2.2.2.1 gL_puzzle_X4_puzzle rfl rfl rfl (by decide +kernel) ⟨Nat.le_of_ble_eq_true rfl, Nat.le_of_ble_eq_true rfl⟩) (kh_preVJ C hT hw hS 0 (kh_z0 ρ) kh_kd0 rfl) rfl rfl hl.1.1 rfl (lv_room (kh_sum (kh_ac rfl (kh_ac rfl kh_an)) (Nat.le_of_ble_eq_true rfl))) dL_puzzle_11 ⟨Nat.le_of_ble_eq_true rfl, Nat.le_of_ble_eq_true rfl⟩) hS h9 (fun H locs hw hS => ?_)
  refine lv_i2l (v := r9.toInt64) C.1 C.2.1 dL_puzzle_14 rfl ?_
  refine kh_last C hw hS 60 (x := r9) rfl (kh_z60 ρ1) (by decide) kh_kd60 (by decide) rfl dL_puzzle_15 (fun H locs hw hS => ?_)
  refine lv_goto (tgt := 31) C.1 C.2.1 dL_puzzle_16 (by decide) ?_
  refine lv_iconst (v := (0 : Int32)) C.1 C.2.1 dL_puzzle_31 (by decide) ?_
  refine W.widen (k := 2) (n := 12) (Nat.le_of_ble_eq_true rfl) (Nat.le_of_ble_eq_true rfl) ?_
  exact W.iret (v := (0 : Int32)) C.1 C.2.1 hr (fun t ht hW => ⟨⟨(0 : Int32), kh_up ρ1 60 0 0 (0 : Int32).toNatClampNeg r9, rfl, hF0.trans hF.symm, kh_bk ht hw⟩, hS.F ht⟩) hS.2.2 dL_puzzle_32

def f_L_prop (ρ : kh_S) (x1 : Int32) (x2 : Int32) : Option (Int32 × kh_S) := kh_hx (f_X4_prop ρ x1 x2) (fun E => if E = kh_E3 then some (1 : Int32) else none) (fun r => some ((0 : Int32), kh_up r.2 60 0 0 (0 : Int32).toNatClampNeg r.1))
set_option maxHeartbeats 4000000 in
set_option maxRecDepth 100000 in
theorem c_L_prop (l : Launch) (hlt : l.stackTraces = false) (D : va_G) (ca : Nat → ClassId) (A : Nat → Prop) (ad : Nat → Nat → Nat) (ρ : kh_S) (x1 : Int32) (x2 : Int32) {q0 : Int32 × kh_S} (hF0 : f_L_prop ρ x1 x2 = some q0) : Met l yL_prop wsL_prop ({ frames := 7, cells := 1, slots := 6, locals := 114 } : Room) (va_Pc [.ref (ad 0 0), .int x1, .int x2, .ref (ad 60 0)] (kh_JL D ca A ad ρ)) (kh_Qi D ca A ad (f_L_prop ρ x1 x2)) 1 6 A := by
  refine kh_ofWH (cc := cL_prop) (maxL := 5) (ret := some .int) (hh := [(0, 10, 13, 21)]) (by decide) rfl ?_
  intro p e s m args below meth c s₁ B hml htb hv
  obtain ⟨rfl, ⟨⟨hK, hw, hA⟩, hT⟩, hN⟩ := hv
  have C : kh_C p s m ([.ref (ad 0 0), .int x1, .int x2, .ref (ad 60 0)]).toArray c cL_prop 5 RL wsL_prop D ca A := ⟨B.exec, B.bytes, hml, findClass_of_methodNamed B.named, atoms_spec (ws := wsL_prop) B.pre, hK, hA⟩
  have hr := B.returns
  have hlocks := B.notSynchronized
  have hS : va_S A s.heap s.heap [] := va_S.rf
  have hl := kh_entry ([.ref (ad 0 0), .int x1, .int x2, .ref (ad 60 0)]) (n := 5) (kh_ac rfl (kh_ac rfl (kh_ac rfl (kh_ac rfl kh_an)))) (Nat.le_of_ble_eq_true rfl)
  rw [lg_entry_eq]
  generalize (lg_sl ([.ref (ad 0 0), .int x1, .int x2, .ref (ad 60 0)]) ++ List.replicate (5 - (lg_sl ([.ref (ad 0 0), .int x1, .int x2, .ref (ad 60 0)])).length) Slot.unset).toArray = ls at hl ⊢
  have hl : kh_lv ls 5 [(0, .ref (ad 0 0)), (1, .int x1), (2, .int x2), (3, .ref (ad 60 0))] := hl
  have hF := hF0
  unfold f_L_prop at hF
  refine lv_aload_n C.1 C.2.1 dL_prop_0 rfl (kh_at hl 3 rfl) ?_
  refine lv_iconst (v := (0 : Int32)) C.1 C.2.1 dL_prop_1 (by decide) ?_
  refine lv_aload_n C.1 C.2.1 dL_prop_2 rfl (kh_at hl 0 rfl) ?_
  refine lv_iload_n C.1 C.2.1 dL_prop_3 rfl (kh_at hl 1 rfl) ?_
  refine lv_iload_n C.1 C.2.1 dL_prop_4 rfl (kh_at hl 2 rfl) ?_
  rcases kh_hx_ok hF with ⟨E, ρ1, h9, hg, hy⟩ | ⟨⟨r9, ρ1⟩, h9, hF⟩
  · refine kh_xcallX (vx_runV (As := [.int x1, .int x2]) (rest := [.int (0 : Int32), .ref (ad 60 0)]) ⟨C.1, C.2.1, C.2.2.1, C.2.2.2.1, C.2.2.2.2.1⟩ (c_X4_prop l hlt D ca A ad ρ x1 x2 h9) (cwV 2 C.2.2.2.2.1 gL_prop_X4_prop rfl rfl rfl (by decide +kernel) ⟨Nat.le_of_ble_eq_true rfl, Nat.le_of_ble_eq_true rfl⟩) (kh_preVJ C hT hw hS 0 (kh_z0 ρ) kh_kd0 rfl) rfl rfl hl.1.1 rfl (lv_room (kh_sum (kh_ac rfl (kh_ac rfl kh_an)) (Nat.le_of_ble_eq_true rfl))) dL_prop_5 ⟨Nat.le_of_ble_eq_true rfl, Nat.le_of_ble_eq_true rfl⟩) hS h9 (kh_notYi h9) (fun H locs ce q9 hw hS g7 g8 g9 => ?_)
    have hF : (if E = kh_E3 then some (1 : Int32) else none) = some q0.1 := hg
    by_cases c0 : E = kh_E3
    · have hF := kh_ift hF c0
      refine vx_catch (E := kh_E3) (name := kh_E3) C.2.2.2.1 [] ⟨0, 10, 13, 21⟩ [] htb (fun z hz => absurd hz List.not_mem_nil) (by decide) (by decide) (C.2.2.2.2.1 (.classLink RL 21 kh_E3) (by decide +kernel)) (va_Nw.use rfl hT.2.2.2.2.2.2.1) g7 g8 (by rw [← c0]; exact g9) ?_
      refine lv_astore C.1 C.2.1 dL_prop_13 hl.1 (by decide) rfl (fun ls h6 => ?_)
      refine lv_iconst (v := (1 : Int32)) C.1 C.2.1 dL_prop_15 (by decide) ?_
      refine W.widen (k := 1) (n := 6) (Nat.le_of_ble_eq_true rfl) (Nat.le_of_ble_eq_true rfl) ?_
      exact W.iret (v := (1 : Int32)) C.1 C.2.1 hr (fun t ht hW => ⟨⟨(1 : Int32), ρ1, rfl, hF0.trans (congrArg some (Prod.ext (Option.some.inj hF).symm hy)), kh_bk ht hw⟩, hS.F ht⟩) hS.2.2 dL_prop_16
    have hF := kh_iff hF c0
    exact absurd hF (fun z => nomatch z)
  refine kh_xcalli (vx_runV (As := [.int x1, .int x2]) (rest := [.int (0 : Int32), .ref (ad 60 0)]) ⟨C.1, C.2.1, C.2.2.1, C.2.2.2.1, C.2.2.2.2.1⟩ (c_X4_prop l hlt D ca A ad ρ x1 x2 h9) (cwV 2 C.2.2.2.2.1 gL_prop_X4_prop rfl rfl rfl (by decide +kernel) ⟨Nat.le_of_ble_eq_true rfl, Nat.le_of_ble_eq_true rfl⟩) (kh_preVJ C hT hw hS 0 (kh_z0 ρ) kh_kd0 rfl) rfl rfl hl.1.1 rfl (lv_room (kh_sum (kh_ac rfl (kh_ac rfl kh_an)) (Nat.le_of_ble_eq_true rfl))) dL_prop_5 ⟨Nat.le_of_ble_eq_true rfl, Nat.le_of_ble_eq_true rfl⟩) hS h9 (fun H locs hw hS => ?_)
  refine lv_i2l (v := r9.toInt64) C.1 C.2.1 dL_prop_8 rfl ?_
  refine kh_last C hw hS 60 (x := r9) rfl (kh_z60 ρ1) (by decide) kh_kd60 (by decide) rfl dL_prop_9 (fun H locs hw hS => ?_)
  refine lv_goto (tgt := 17) C.1 C.2.1 dL_prop_10 (by decide) ?_
  refine lv_iconst (v := (0 : Int32)) C.1 C.2.1 dL_prop_17 (by decide) ?_
  refine W.widen (k := 1) (n := 6) (Nat.le_of_ble_eq_true rfl) (Nat.le_of_ble_eq_true rfl) ?_
  exact W.iret (v := (0 : Int32)) C.1 C.2.1 hr (fun t ht hW => ⟨⟨(0 : Int32), kh_up ρ1 60 0 0 (0 : Int32).toNatClampNeg r9, rfl, hF0.trans hF.symm, kh_bk ht hw⟩, hS.F ht⟩) hS.2.2 dL_prop_18

def f_L_had (ρ : kh_S) (x1 : Int32) (x2 : Int32) : Option (Int32 × kh_S) := kh_hx (kh_pt (f_X4_had ρ x1 x2) ρ) (fun E => if E = kh_E3 then some (1 : Int32) else (if E = kh_E1 then some (2 : Int32) else none)) (fun r => some ((0 : Int32), kh_up r.2 60 0 0 (0 : Int32).toNatClampNeg r.1))
set_option maxHeartbeats 4000000 in
set_option maxRecDepth 100000 in
theorem c_L_had (l : Launch) (hlt : l.stackTraces = false) (D : va_G) (ca : Nat → ClassId) (A : Nat → Prop) (ad : Nat → Nat → Nat) (ρ : kh_S) (x1 : Int32) (x2 : Int32) {q0 : Int32 × kh_S} (hF0 : f_L_had ρ x1 x2 = some q0) : Met l yL_had wsL_had ({ frames := 8, cells := 2, slots := 12, locals := 134 } : Room) (va_Pc [.ref (ad 0 0), .int x1, .int x2, .ref (ad 60 0)] (kh_JL D ca A ad ρ)) (kh_Qi D ca A ad (f_L_had ρ x1 x2)) 2 12 A := by
  refine kh_ofWH (cc := cL_had) (maxL := 5) (ret := some .int) (hh := [(0, 10, 13, 21), (0, 10, 17, 13)]) (by decide) rfl ?_
  intro p e s m args below meth c s₁ B hml htb hv
  obtain ⟨rfl, ⟨⟨hK, hw, hA⟩, hT⟩, hN⟩ := hv
  have C : kh_C p s m ([.ref (ad 0 0), .int x1, .int x2, .ref (ad 60 0)]).toArray c cL_had 5 RL wsL_had D ca A := ⟨B.exec, B.bytes, hml, findClass_of_methodNamed B.named, atoms_spec (ws := wsL_had) B.pre, hK, hA⟩
  have hr := B.returns
  have hlocks := B.notSynchronized
  have hS : va_S A s.heap s.heap [] := va_S.rf
  have hl := kh_entry ([.ref (ad 0 0), .int x1, .int x2, .ref (ad 60 0)]) (n := 5) (kh_ac rfl (kh_ac rfl (kh_ac rfl (kh_ac rfl kh_an)))) (Nat.le_of_ble_eq_true rfl)
  rw [lg_entry_eq]
  generalize (lg_sl ([.ref (ad 0 0), .int x1, .int x2, .ref (ad 60 0)]) ++ List.replicate (5 - (lg_sl ([.ref (ad 0 0), .int x1, .int x2, .ref (ad 60 0)])).length) Slot.unset).toArray = ls at hl ⊢
  have hl : kh_lv ls 5 [(0, .ref (ad 0 0)), (1, .int x1), (2, .int x2), (3, .ref (ad 60 0))] := hl
  have hF := hF0
  unfold f_L_had at hF
  refine lv_aload_n C.1 C.2.1 dL_had_0 rfl (kh_at hl 3 rfl) ?_
  refine lv_iconst (v := (0 : Int32)) C.1 C.2.1 dL_had_1 (by decide) ?_
  refine lv_aload_n C.1 C.2.1 dL_had_2 rfl (kh_at hl 0 rfl) ?_
  refine lv_iload_n C.1 C.2.1 dL_had_3 rfl (kh_at hl 1 rfl) ?_
  refine lv_iload_n C.1 C.2.1 dL_had_4 rfl (kh_at hl 2 rfl) ?_
  rcases kh_hx_ok hF with ⟨E, ρ1, h9, hg, hy⟩ | ⟨⟨r9, ρ1⟩, h9, hF⟩
  · obtain ⟨q8, h8⟩ := kh_ptS h9
    refine kh_xcallX (vx_runV (As := [.int x1, .int x2]) (rest := [.int (0 : Int32), .ref (ad 60 0)]) ⟨C.1, C.2.1, C.2.2.1, C.2.2.2.1, C.2.2.2.2.1⟩ (c_X4_had l hlt D ca A ad ρ x1 x2 h8) (cwV 2 C.2.2.2.2.1 gL_had_X4_had rfl rfl rfl (by decide +kernel) ⟨Nat.le_of_ble_eq_true rfl, Nat.le_of_ble_eq_true rfl⟩) (kh_preVJ C hT hw hS 0 (kh_z0 ρ) kh_kd0 rfl) rfl rfl hl.1.1 rfl (lv_room (kh_sum (kh_ac rfl (kh_ac rfl kh_an)) (Nat.le_of_ble_eq_true rfl))) dL_had_5 ⟨Nat.le_of_ble_eq_true rfl, Nat.le_of_ble_eq_true rfl⟩) hS h9 (kh_notYi h9) (fun H locs ce q9 hw hS g7 g8 g9 => ?_)
    have hF : (if E = kh_E3 then some (1 : Int32) else (if E = kh_E1 then some (2 : Int32) else none)) = some q0.1 := hg
    by_cases c0 : E = kh_E3
    · have hF := kh_ift hF c0
      refine vx_catch (E := kh_E3) (name := kh_E3) C.2.2.2.1 [] ⟨0, 10, 13, 21⟩ [⟨0, 10, 17, 13⟩] htb (fun z hz => absurd hz List.not_mem_nil) (by decide) (by decide) (C.2.2.2.2.1 (.classLink RL 21 kh_E3) (by decide +kernel)) (va_Nw.use rfl hT.2.2.2.2.2.2.1) g7 g8 (by rw [← c0]; exact g9) ?_
      refine lv_astore C.1 C.2.1 dL_had_13 hl.1 (by decide) rfl (fun ls h6 => ?_)
      refine lv_iconst (v := (1 : Int32)) C.1 C.2.1 dL_had_15 (by decide) ?_
      refine W.widen (k := 2) (n := 12) (Nat.le_of_ble_eq_true rfl) (Nat.le_of_ble_eq_true rfl) ?_
      exact W.iret (v := (1 : Int32)) C.1 C.2.1 hr (fun t ht hW => ⟨⟨(1 : Int32), ρ1, rfl, hF0.trans (congrArg some (Prod.ext (Option.some.inj hF).symm hy)), kh_bk ht hw⟩, hS.F ht⟩) hS.2.2 dL_had_16
    have hF := kh_iff hF c0
    by_cases c1 : E = kh_E1
    · have hF := kh_ift hF c1
      refine vx_catch (E := kh_E1) (name := kh_E1) C.2.2.2.1 [⟨0, 10, 13, 21⟩] ⟨0, 10, 17, 13⟩ [] htb (List.forall_mem_cons.mpr ⟨Or.inr ⟨by decide, kh_E3, C.2.2.2.2.1 (.classLink RL 21 kh_E3) (by decide +kernel), hN.2.1⟩, (fun z hz => absurd hz List.not_mem_nil)⟩) (by decide) (by decide) (C.2.2.2.2.1 (.classLink RL 13 kh_E1) (by decide +kernel)) (va_Nw.use rfl hT.2.2.2.1.2.1) g7 g8 (by rw [← c1]; exact g9) ?_
      refine lv_astore C.1 C.2.1 dL_had_17 hl.1 (by decide) rfl (fun ls h6 => ?_)
      refine lv_iconst (v := (2 : Int32)) C.1 C.2.1 dL_had_19 (by decide) ?_
      refine W.widen (k := 2) (n := 12) (Nat.le_of_ble_eq_true rfl) (Nat.le_of_ble_eq_true rfl) ?_
      exact W.iret (v := (2 : Int32)) C.1 C.2.1 hr (fun t ht hW => ⟨⟨(2 : Int32), ρ1, rfl, hF0.trans (congrArg some (Prod.ext (Option.some.inj hF).symm hy)), kh_bk ht hw⟩, hS.F ht⟩) hS.2.2 dL_had_20
    have hF := kh_iff hF c1
    exact absurd hF (fun z => nomatch z)
  obtain ⟨q8, h8⟩ := kh_ptS h9
  refine kh_xcalli (vx_runV (As := [.int x1, .int x2]) (rest := [.int (0 : Int32), .ref (ad 60 0)]) ⟨C.1, C.2.1, C.2.2.1, C.2.2.2.1, C.2.2.2.2.1⟩ (c_X4_had l hlt D ca A ad ρ x1 x2 h8) (cwV 2 C.2.2.2.2.1 gL_had_X4_had rfl rfl rfl (by decide +kernel) ⟨Nat.le_of_ble_eq_true rfl, Nat.le_of_ble_eq_true rfl⟩) (kh_preVJ C hT hw hS 0 (kh_z0 ρ) kh_kd0 rfl) rfl rfl hl.1.1 rfl (lv_room (kh_sum (kh_ac rfl (kh_ac rfl kh_an)) (Nat.le_of_ble_eq_true rfl))) dL_had_5 ⟨Nat.le_of_ble_eq_true rfl, Nat.le_of_ble_eq_true rfl⟩) hS h9 (fun H locs hw hS => ?_)
  refine lv_i2l (v := r9.toInt64) C.1 C.2.1 dL_had_8 rfl ?_
  refine kh_last C hw hS 60 (x := r9) rfl (kh_z60 ρ1) (by decide) kh_kd60 (by decide) rfl dL_had_9 (fun H locs hw hS => ?_)
  refine lv_goto (tgt := 21) C.1 C.2.1 dL_had_10 (by decide) ?_
  refine lv_iconst (v := (0 : Int32)) C.1 C.2.1 dL_had_21 (by decide) ?_
  refine W.widen (k := 2) (n := 12) (Nat.le_of_ble_eq_true rfl) (Nat.le_of_ble_eq_true rfl) ?_
  exact W.iret (v := (0 : Int32)) C.1 C.2.1 hr (fun t ht hW => ⟨⟨(0 : Int32), kh_up ρ1 60 0 0 (0 : Int32).toNatClampNeg r9, rfl, hF0.trans hF.symm, kh_bk ht hw⟩, hS.F ht⟩) hS.2.2 dL_had_22

def f_L_canBeLeft (ρ : kh_S) (x1 : Int32) : Option (Int32 × kh_S) := kh_hx (kh_pt (f_X4_canBeLeft ρ x1) ρ) (fun E => if E = kh_E3 then some (1 : Int32) else none) (fun r => some ((0 : Int32), kh_up r.2 60 0 0 (0 : Int32).toNatClampNeg (if r.1 = 0 then 0 else 1)))
set_option maxHeartbeats 4000000 in
set_option maxRecDepth 100000 in
theorem c_L_canBeLeft (l : Launch) (hlt : l.stackTraces = false) (D : va_G) (ca : Nat → ClassId) (A : Nat → Prop) (ad : Nat → Nat → Nat) (ρ : kh_S) (x1 : Int32) {q0 : Int32 × kh_S} (hF0 : f_L_canBeLeft ρ x1 = some q0) : Met l yL_canBeLeft wsL_canBeLeft ({ frames := 8, cells := 1, slots := 6, locals := 132 } : Room) (va_Pc [.ref (ad 0 0), .int x1, .ref (ad 60 0)] (kh_JL D ca A ad ρ)) (kh_Qi D ca A ad (f_L_canBeLeft ρ x1)) 1 6 A := by
  refine kh_ofWH (cc := cL_canBeLeft) (maxL := 4) (ret := some .int) (hh := [(0, 16, 19, 21)]) (by decide) rfl ?_
  intro p e s m args below meth c s₁ B hml htb hv
  obtain ⟨rfl, ⟨⟨hK, hw, hA⟩, hT⟩, hN⟩ := hv
  have C : kh_C p s m ([.ref (ad 0 0), .int x1, .ref (ad 60 0)]).toArray c cL_canBeLeft 4 RL wsL_canBeLeft D ca A := ⟨B.exec, B.bytes, hml, findClass_of_methodNamed B.named, atoms_spec (ws := wsL_canBeLeft) B.pre, hK, hA⟩
  have hr := B.returns
  have hlocks := B.notSynchronized
  have hS : va_S A s.heap s.heap [] := va_S.rf
  have hl := kh_entry ([.ref (ad 0 0), .int x1, .ref (ad 60 0)]) (n := 4) (kh_ac rfl (kh_ac rfl (kh_ac rfl kh_an))) (Nat.le_of_ble_eq_true rfl)
  rw [lg_entry_eq]
  generalize (lg_sl ([.ref (ad 0 0), .int x1, .ref (ad 60 0)]) ++ List.replicate (4 - (lg_sl ([.ref (ad 0 0), .int x1, .ref (ad 60 0)])).length) Slot.unset).toArray = ls at hl ⊢
  have hl : kh_lv ls 4 [(0, .ref (ad 0 0)), (1, .int x1), (2, .ref (ad 60 0))] := hl
  have hF := hF0
  unfold f_L_canBeLeft at hF
  refine lv_aload_n C.1 C.2.1 dL_canBeLeft_0 rfl (kh_at hl 2 rfl) ?_
  refine lv_iconst (v := (0 : Int32)) C.1 C.2.1 dL_canBeLeft_1 (by decide) ?_
  refine lv_aload_n C.1 C.2.1 dL_canBeLeft_2 rfl (kh_at hl 0 rfl) ?_
  refine lv_iload_n C.1 C.2.1 dL_canBeLeft_3 rfl (kh_at hl 1 rfl) ?_
  rcases kh_hx_ok hF with ⟨E, ρ1, h9, hg, hy⟩ | ⟨⟨r9, ρ1⟩, h9, hF⟩
  · obtain ⟨q8, h8⟩ := kh_ptS h9
    refine kh_xcallX (vx_runV (As := [.int x1]) (rest := [.int (0 : Int32), .ref (ad 60 0)]) ⟨C.1, C.2.1, C.2.2.1, C.2.2.2.1, C.2.2.2.2.1⟩ (c_X4_canBeLeft l hlt D ca A ad ρ x1 h8) (cwV 1 C.2.2.2.2.1 gL_canBeLeft_X4_canBeLeft rfl rfl rfl (by decide +kernel) ⟨Nat.le_of_ble_eq_true rfl, Nat.le_of_ble_eq_true rfl⟩) (kh_preVJ C hT hw hS 0 (kh_z0 ρ) kh_kd0 rfl) rfl rfl hl.1.1 rfl (lv_room (kh_sum (kh_ac rfl (kh_ac rfl kh_an)) (Nat.le_of_ble_eq_true rfl))) dL_canBeLeft_4 ⟨Nat.le_of_ble_eq_true rfl, Nat.le_of_ble_eq_true rfl⟩) hS h9 (kh_notYi h9) (fun H locs ce q9 hw hS g7 g8 g9 => ?_)
    have hF : (if E = kh_E3 then some (1 : Int32) else none) = some q0.1 := hg
    by_cases c0 : E = kh_E3
    · have hF := kh_ift hF c0
      refine vx_catch (E := kh_E3) (name := kh_E3) C.2.2.2.1 [] ⟨0, 16, 19, 21⟩ [] htb (fun z hz => absurd hz List.not_mem_nil) (by decide) (by decide) (C.2.2.2.2.1 (.classLink RL 21 kh_E3) (by decide +kernel)) (va_Nw.use rfl hT.2.2.2.2.2.2.1) g7 g8 (by rw [← c0]; exact g9) ?_
      refine lv_astore_n C.1 C.2.1 dL_canBeLeft_19 rfl hl.1 (by decide) rfl (fun ls h6 => ?_)
      refine lv_iconst (v := (1 : Int32)) C.1 C.2.1 dL_canBeLeft_20 (by decide) ?_
      refine W.widen (k := 1) (n := 6) (Nat.le_of_ble_eq_true rfl) (Nat.le_of_ble_eq_true rfl) ?_
      exact W.iret (v := (1 : Int32)) C.1 C.2.1 hr (fun t ht hW => ⟨⟨(1 : Int32), ρ1, rfl, hF0.trans (congrArg some (Prod.ext (Option.some.inj hF).symm hy)), kh_bk ht hw⟩, hS.F ht⟩) hS.2.2 dL_canBeLeft_21
    have hF := kh_iff hF c0
    exact absurd hF (fun z => nomatch z)
  obtain ⟨q8, h8⟩ := kh_ptS h9
  refine kh_xcalli (vx_runV (As := [.int x1]) (rest := [.int (0 : Int32), .ref (ad 60 0)]) ⟨C.1, C.2.1, C.2.2.1, C.2.2.2.1, C.2.2.2.2.1⟩ (c_X4_canBeLeft l hlt D ca A ad ρ x1 h8) (cwV 1 C.2.2.2.2.1 gL_canBeLeft_X4_canBeLeft rfl rfl rfl (by decide +kernel) ⟨Nat.le_of_ble_eq_true rfl, Nat.le_of_ble_eq_true rfl⟩) (kh_preVJ C hT hw hS 0 (kh_z0 ρ) kh_kd0 rfl) rfl rfl hl.1.1 rfl (lv_room (kh_sum (kh_ac rfl (kh_ac rfl kh_an)) (Nat.le_of_ble_eq_true rfl))) dL_canBeLeft_4 ⟨Nat.le_of_ble_eq_true rfl, Nat.le_of_ble_eq_true rfl⟩) hS h9 (fun H locs hw hS => ?_)
  refine lv_if_eq (tgt := 14) C.1 C.2.1 dL_canBeLeft_7 (by decide) (fun c9 => ?_) (fun c9 => ?_)
  · have hF : some ((0 : Int32), kh_up ρ1 60 0 0 (0 : Int32).toNatClampNeg (if r9 = 0 then 0 else 1)) = some q0 := hF
    rw [if_pos c9] at hF
    refine lv_lconst (v := (0 : Int32).toInt64) C.1 C.2.1 dL_canBeLeft_14 (by decide) ?_
    refine kh_last C hw hS 60 (x := 0) rfl (kh_z60 ρ1) (by decide) kh_kd60 (by decide) rfl dL_canBeLeft_15 (fun H locs hw hS => ?_)
    refine lv_goto (tgt := 22) C.1 C.2.1 dL_canBeLeft_16 (by decide) ?_
    refine lv_iconst (v := (0 : Int32)) C.1 C.2.1 dL_canBeLeft_22 (by decide) ?_
    refine W.widen (k := 1) (n := 6) (Nat.le_of_ble_eq_true rfl) (Nat.le_of_ble_eq_true rfl) ?_
    exact W.iret (v := (0 : Int32)) C.1 C.2.1 hr (fun t ht hW => ⟨⟨(0 : Int32), kh_up ρ1 60 0 0 (0 : Int32).toNatClampNeg (0 : Int32), rfl, hF0.trans hF.symm, kh_bk ht hw⟩, hS.F ht⟩) hS.2.2 dL_canBeLeft_23
  · have hF : some ((0 : Int32), kh_up ρ1 60 0 0 (0 : Int32).toNatClampNeg (if r9 = 0 then 0 else 1)) = some q0 := hF
    rw [if_neg c9] at hF
    refine lv_lconst (v := (1 : Int32).toInt64) C.1 C.2.1 dL_canBeLeft_10 (by decide) ?_
    refine lv_goto (tgt := 15) C.1 C.2.1 dL_canBeLeft_11 (by decide) ?_
    refine kh_last C hw hS 60 (x := 1) rfl (kh_z60 ρ1) (by decide) kh_kd60 (by decide) rfl dL_canBeLeft_15 (fun H locs hw hS => ?_)
    refine lv_goto (tgt := 22) C.1 C.2.1 dL_canBeLeft_16 (by decide) ?_
    refine lv_iconst (v := (0 : Int32)) C.1 C.2.1 dL_canBeLeft_22 (by decide) ?_
    refine W.widen (k := 1) (n := 6) (Nat.le_of_ble_eq_true rfl) (Nat.le_of_ble_eq_true rfl) ?_
    exact W.iret (v := (0 : Int32)) C.1 C.2.1 hr (fun t ht hW => ⟨⟨(0 : Int32), kh_up ρ1 60 0 0 (0 : Int32).toNatClampNeg (1 : Int32), rfl, hF0.trans hF.symm, kh_bk ht hw⟩, hS.F ht⟩) hS.2.2 dL_canBeLeft_23

def f_L_orders (ρ : kh_S) (x1 : Int32) : Option (Int32 × kh_S) := kh_hx (f_X4_orders ρ x1) (fun E => if E = kh_E3 then some (1 : Int32) else none) (fun r => some ((0 : Int32), kh_up r.2 60 0 0 (0 : Int32).toNatClampNeg r.1))
set_option maxHeartbeats 4000000 in
set_option maxRecDepth 100000 in
theorem c_L_orders (l : Launch) (hlt : l.stackTraces = false) (D : va_G) (ca : Nat → ClassId) (A : Nat → Prop) (ad : Nat → Nat → Nat) (ρ : kh_S) (x1 : Int32) {q0 : Int32 × kh_S} (hF0 : f_L_orders ρ x1 = some q0) : Met l yL_orders wsL_orders ({ frames := 8, cells := 1, slots := 6, locals := 132 } : Room) (va_Pc [.ref (ad 0 0), .int x1, .ref (ad 60 0)] (kh_JL D ca A ad ρ)) (kh_Qi D ca A ad (f_L_orders ρ x1)) 1 6 A := by
  refine kh_ofWH (cc := cL_orders) (maxL := 4) (ret := some .int) (hh := [(0, 9, 12, 21)]) (by decide) rfl ?_
  intro p e s m args below meth c s₁ B hml htb hv
  obtain ⟨rfl, ⟨⟨hK, hw, hA⟩, hT⟩, hN⟩ := hv
  have C : kh_C p s m ([.ref (ad 0 0), .int x1, .ref (ad 60 0)]).toArray c cL_orders 4 RL wsL_orders D ca A := ⟨B.exec, B.bytes, hml, findClass_of_methodNamed B.named, atoms_spec (ws := wsL_orders) B.pre, hK, hA⟩
  have hr := B.returns
  have hlocks := B.notSynchronized
  have hS : va_S A s.heap s.heap [] := va_S.rf
  have hl := kh_entry ([.ref (ad 0 0), .int x1, .ref (ad 60 0)]) (n := 4) (kh_ac rfl (kh_ac rfl (kh_ac rfl kh_an))) (Nat.le_of_ble_eq_true rfl)
  rw [lg_entry_eq]
  generalize (lg_sl ([.ref (ad 0 0), .int x1, .ref (ad 60 0)]) ++ List.replicate (4 - (lg_sl ([.ref (ad 0 0), .int x1, .ref (ad 60 0)])).length) Slot.unset).toArray = ls at hl ⊢
  have hl : kh_lv ls 4 [(0, .ref (ad 0 0)), (1, .int x1), (2, .ref (ad 60 0))] := hl
  have hF := hF0
  unfold f_L_orders at hF
  refine lv_aload_n C.1 C.2.1 dL_orders_0 rfl (kh_at hl 2 rfl) ?_
  refine lv_iconst (v := (0 : Int32)) C.1 C.2.1 dL_orders_1 (by decide) ?_
  refine lv_aload_n C.1 C.2.1 dL_orders_2 rfl (kh_at hl 0 rfl) ?_
  refine lv_iload_n C.1 C.2.1 dL_orders_3 rfl (kh_at hl 1 rfl) ?_
  rcases kh_hx_ok hF with ⟨E, ρ1, h9, hg, hy⟩ | ⟨⟨r9, ρ1⟩, h9, hF⟩
  · refine kh_xcallX (vx_runV (As := [.int x1]) (rest := [.int (0 : Int32), .ref (ad 60 0)]) ⟨C.1, C.2.1, C.2.2.1, C.2.2.2.1, C.2.2.2.2.1⟩ (c_X4_orders l hlt D ca A ad ρ x1 h9) (cwV 1 C.2.2.2.2.1 gL_orders_X4_orders rfl rfl rfl (by decide +kernel) ⟨Nat.le_of_ble_eq_true rfl, Nat.le_of_ble_eq_true rfl⟩) (kh_preVJ C hT hw hS 0 (kh_z0 ρ) kh_kd0 rfl) rfl rfl hl.1.1 rfl (lv_room (kh_sum (kh_ac rfl (kh_ac rfl kh_an)) (Nat.le_of_ble_eq_true rfl))) dL_orders_4 ⟨Nat.le_of_ble_eq_true rfl, Nat.le_of_ble_eq_true rfl⟩) hS h9 (kh_notYi h9) (fun H locs ce q9 hw hS g7 g8 g9 => ?_)
    have hF : (if E = kh_E3 then some (1 : Int32) else none) = some q0.1 := hg
    by_cases c0 : E = kh_E3
    · have hF := kh_ift hF c0
      refine vx_catch (E := kh_E3) (name := kh_E3) C.2.2.2.1 [] ⟨0, 9, 12, 21⟩ [] htb (fun z hz => absurd hz List.not_mem_nil) (by decide) (by decide) (C.2.2.2.2.1 (.classLink RL 21 kh_E3) (by decide +kernel)) (va_Nw.use rfl hT.2.2.2.2.2.2.1) g7 g8 (by rw [← c0]; exact g9) ?_
      refine lv_astore_n C.1 C.2.1 dL_orders_12 rfl hl.1 (by decide) rfl (fun ls h6 => ?_)
      refine lv_iconst (v := (1 : Int32)) C.1 C.2.1 dL_orders_13 (by decide) ?_
      refine W.widen (k := 1) (n := 6) (Nat.le_of_ble_eq_true rfl) (Nat.le_of_ble_eq_true rfl) ?_
      exact W.iret (v := (1 : Int32)) C.1 C.2.1 hr (fun t ht hW => ⟨⟨(1 : Int32), ρ1, rfl, hF0.trans (congrArg some (Prod.ext (Option.some.inj hF).symm hy)), kh_bk ht hw⟩, hS.F ht⟩) hS.2.2 dL_orders_14
    have hF := kh_iff hF c0
    exact absurd hF (fun z => nomatch z)
  refine kh_xcalli (vx_runV (As := [.int x1]) (rest := [.int (0 : Int32), .ref (ad 60 0)]) ⟨C.1, C.2.1, C.2.2.1, C.2.2.2.1, C.2.2.2.2.1⟩ (c_X4_orders l hlt D ca A ad ρ x1 h9) (cwV 1 C.2.2.2.2.1 gL_orders_X4_orders rfl rfl rfl (by decide +kernel) ⟨Nat.le_of_ble_eq_true rfl, Nat.le_of_ble_eq_true rfl⟩) (kh_preVJ C hT hw hS 0 (kh_z0 ρ) kh_kd0 rfl) rfl rfl hl.1.1 rfl (lv_room (kh_sum (kh_ac rfl (kh_ac rfl kh_an)) (Nat.le_of_ble_eq_true rfl))) dL_orders_4 ⟨Nat.le_of_ble_eq_true rfl, Nat.le_of_ble_eq_true rfl⟩) hS h9 (fun H locs hw hS => ?_)
  refine lv_i2l (v := r9.toInt64) C.1 C.2.1 dL_orders_7 rfl ?_
  refine kh_last C hw hS 60 (x := r9) rfl (kh_z60 ρ1) (by decide) kh_kd60 (by decide) rfl dL_orders_8 (fun H locs hw hS => ?_)
  refine lv_goto (tgt := 15) C.1 C.2.1 dL_orders_9 (by decide) ?_
  refine lv_iconst (v := (0 : Int32)) C.1 C.2.1 dL_orders_15 (by decide) ?_
  refine W.widen (k := 1) (n := 6) (Nat.le_of_ble_eq_true rfl) (Nat.le_of_ble_eq_true rfl) ?_
  exact W.iret (v := (0 : Int32)) C.1 C.2.1 hr (fun t ht hW => ⟨⟨(0 : Int32), kh_up ρ1 60 0 0 (0 : Int32).toNatClampNeg r9, rfl, hF0.trans hF.symm, kh_bk ht hw⟩, hS.F ht⟩) hS.2.2 dL_orders_16

def f_L_ordersAnew (ρ : kh_S) (x1 : Int32) : Option (Int32 × kh_S) := kh_hx (kh_pt (f_X4_ordersAnew ρ x1) ρ) (fun E => if E = kh_E3 then some (1 : Int32) else none) (fun r => some ((0 : Int32), kh_up r.2 60 0 0 (0 : Int32).toNatClampNeg r.1))
set_option maxHeartbeats 4000000 in
set_option maxRecDepth 100000 in
theorem c_L_ordersAnew (l : Launch) (hlt : l.stackTraces = false) (D : va_G) (ca : Nat → ClassId) (A : Nat → Prop) (ad : Nat → Nat → Nat) (ρ : kh_S) (x1 : Int32) {q0 : Int32 × kh_S} (hF0 : f_L_ordersAnew ρ x1 = some q0) : Met l yL_ordersAnew wsL_ordersAnew ({ frames := 14, cells := 1, slots := 6, locals := 341 } : Room) (va_Pc [.ref (ad 0 0), .int x1, .ref (ad 60 0)] (kh_JL D ca A ad ρ)) (kh_Qi D ca A ad (f_L_ordersAnew ρ x1)) 1 6 A := by
  refine kh_ofWH (cc := cL_ordersAnew) (maxL := 4) (ret := some .int) (hh := [(0, 9, 12, 21)]) (by decide) rfl ?_
  intro p e s m args below meth c s₁ B hml htb hv
  obtain ⟨rfl, ⟨⟨hK, hw, hA⟩, hT⟩, hN⟩ := hv
  have C : kh_C p s m ([.ref (ad 0 0), .int x1, .ref (ad 60 0)]).toArray c cL_ordersAnew 4 RL wsL_ordersAnew D ca A := ⟨B.exec, B.bytes, hml, findClass_of_methodNamed B.named, atoms_spec (ws := wsL_ordersAnew) B.pre, hK, hA⟩
  have hr := B.returns
  have hlocks := B.notSynchronized
  have hS : va_S A s.heap s.heap [] := va_S.rf
  have hl := kh_entry ([.ref (ad 0 0), .int x1, .ref (ad 60 0)]) (n := 4) (kh_ac rfl (kh_ac rfl (kh_ac rfl kh_an))) (Nat.le_of_ble_eq_true rfl)
  rw [lg_entry_eq]
  generalize (lg_sl ([.ref (ad 0 0), .int x1, .ref (ad 60 0)]) ++ List.replicate (4 - (lg_sl ([.ref (ad 0 0), .int x1, .ref (ad 60 0)])).length) Slot.unset).toArray = ls at hl ⊢
  have hl : kh_lv ls 4 [(0, .ref (ad 0 0)), (1, .int x1), (2, .ref (ad 60 0))] := hl
  have hF := hF0
  unfold f_L_ordersAnew at hF
  refine lv_aload_n C.1 C.2.1 dL_ordersAnew_0 rfl (kh_at hl 2 rfl) ?_
  refine lv_iconst (v := (0 : Int32)) C.1 C.2.1 dL_ordersAnew_1 (by decide) ?_
  refine lv_aload_n C.1 C.2.1 dL_ordersAnew_2 rfl (kh_at hl 0 rfl) ?_
  refine lv_iload_n C.1 C.2.1 dL_ordersAnew_3 rfl (kh_at hl 1 rfl) ?_
  rcases kh_hx_ok hF with ⟨E, ρ1, h9, hg, hy⟩ | ⟨⟨r9, ρ1⟩, h9, hF⟩
  · obtain ⟨q8, h8⟩ := kh_ptS h9
    refine kh_xcallX (vx_runV (As := [.int x1]) (rest := [.int (0 : Int32), .ref (ad 60 0)]) ⟨C.1, C.2.1, C.2.2.1, C.2.2.2.1, C.2.2.2.2.1⟩ (c_X4_ordersAnew l hlt D ca A ad ρ x1 h8) (cwV 1 C.2.2.2.2.1 gL_ordersAnew_X4_ordersAnew rfl rfl rfl (by decide +kernel) ⟨Nat.le_of_ble_eq_true rfl, Nat.le_of_ble_eq_true rfl⟩) (kh_preVJ C hT hw hS 0 (kh_z0 ρ) kh_kd0 rfl) rfl rfl hl.1.1 rfl (lv_room (kh_sum (kh_ac rfl (kh_ac rfl kh_an)) (Nat.le_of_ble_eq_true rfl))) dL_ordersAnew_4 ⟨Nat.le_of_ble_eq_true rfl, Nat.le_of_ble_eq_true rfl⟩) hS h9 (kh_notYi h9) (fun H locs ce q9 hw hS g7 g8 g9 => ?_)
    have hF : (if E = kh_E3 then some (1 : Int32) else none) = some q0.1 := hg
    by_cases c0 : E = kh_E3
    · have hF := kh_ift hF c0
      refine vx_catch (E := kh_E3) (name := kh_E3) C.2.2.2.1 [] ⟨0, 9, 12, 21⟩ [] htb (fun z hz => absurd hz List.not_mem_nil) (by decide) (by decide) (C.2.2.2.2.1 (.classLink RL 21 kh_E3) (by decide +kernel)) (va_Nw.use rfl hT.2.2.2.2.2.2.1) g7 g8 (by rw [← c0]; exact g9) ?_
      refine lv_astore_n C.1 C.2.1 dL_ordersAnew_12 rfl hl.1 (by decide) rfl (fun ls h6 => ?_)
      refine lv_iconst (v := (1 : Int32)) C.1 C.2.1 dL_ordersAnew_13 (by decide) ?_
      refine W.widen (k := 1) (n := 6) (Nat.le_of_ble_eq_true rfl) (Nat.le_of_ble_eq_true rfl) ?_
      exact W.iret (v := (1 : Int32)) C.1 C.2.1 hr (fun t ht hW => ⟨⟨(1 : Int32), ρ1, rfl, hF0.trans (congrArg some (Prod.ext (Option.some.inj hF).symm hy)), kh_bk ht hw⟩, hS.F ht⟩) hS.2.2 dL_ordersAnew_14
    have hF := kh_iff hF c0
    exact absurd hF (fun z => nomatch z)
  obtain ⟨q8, h8⟩ := kh_ptS h9
  refine kh_xcalli (vx_runV (As := [.int x1]) (rest := [.int (0 : Int32), .ref (ad 60 0)]) ⟨C.1, C.2.1, C.2.2.1, C.2.2.2.1, C.2.2.2.2.1⟩ (c_X4_ordersAnew l hlt D ca A ad ρ x1 h8) (cwV 1 C.2.2.2.2.1 gL_ordersAnew_X4_ordersAnew rfl rfl rfl (by decide +kernel) ⟨Nat.le_of_ble_eq_true rfl, Nat.le_of_ble_eq_true rfl⟩) (kh_preVJ C hT hw hS 0 (kh_z0 ρ) kh_kd0 rfl) rfl rfl hl.1.1 rfl (lv_room (kh_sum (kh_ac rfl (kh_ac rfl kh_an)) (Nat.le_of_ble_eq_true rfl))) dL_ordersAnew_4 ⟨Nat.le_of_ble_eq_true rfl, Nat.le_of_ble_eq_true rfl⟩) hS h9 (fun H locs hw hS => ?_)
  refine lv_i2l (v := r9.toInt64) C.1 C.2.1 dL_ordersAnew_7 rfl ?_
  refine kh_last C hw hS 60 (x := r9) rfl (kh_z60 ρ1) (by decide) kh_kd60 (by decide) rfl dL_ordersAnew_8 (fun H locs hw hS => ?_)
  refine lv_goto (tgt := 15) C.1 C.2.1 dL_ordersAnew_9 (by decide) ?_
  refine lv_iconst (v := (0 : Int32)) C.1 C.2.1 dL_ordersAnew_15 (by decide) ?_
  refine W.widen (k := 1) (n := 6) (Nat.le_of_ble_eq_true rfl) (Nat.le_of_ble_eq_true rfl) ?_
  exact W.iret (v := (0 : Int32)) C.1 C.2.1 hr (fun t ht hW => ⟨⟨(0 : Int32), kh_up ρ1 60 0 0 (0 : Int32).toNatClampNeg r9, rfl, hF0.trans hF.symm, kh_bk ht hw⟩, hS.F ht⟩) hS.2.2 dL_ordersAnew_16

noncomputable def f_L_come (ρ : kh_S) (x1 : Int32) : Option (Int32 × kh_S) := kh_hx (f_X4_come ρ x1) (fun E => if E = kh_E3 then some (1 : Int32) else (if E = kh_E2 then some (2 : Int32) else none)) (fun r => some ((0 : Int32), kh_up r.2 60 0 0 (0 : Int32).toNatClampNeg r.1))
set_option maxHeartbeats 4000000 in
set_option maxRecDepth 100000 in
theorem c_L_come (l : Launch) (hlt : l.stackTraces = false) (D : va_G) (ca : Nat → ClassId) (A : Nat → Prop) (ad : Nat → Nat → Nat) (ρ : kh_S) (x1 : Int32) {q0 : Int32 × kh_S} (hF0 : f_L_come ρ x1 = some q0) : Met l yL_come wsL_come ({ frames := 8, cells := 3, slots := 23, locals := 134 } : Room) (va_Pc [.ref (ad 0 0), .int x1, .ref (ad 60 0)] (kh_JL D ca A ad ρ)) (kh_QiN D ca A ad ρ (f_L_come ρ x1)) 3 23 A := by
  refine kh_ofWH (cc := cL_come) (maxL := 4) (ret := some .int) (hh := [(0, 9, 12, 21), (0, 9, 15, 15)]) (by decide) rfl ?_
  intro p e s m args below meth c s₁ B hml htb hv
  obtain ⟨rfl, ⟨⟨hK, hw, hA⟩, hT⟩, hN⟩ := hv
  have C : kh_C p s m ([.ref (ad 0 0), .int x1, .ref (ad 60 0)]).toArray c cL_come 4 RL wsL_come D ca A := ⟨B.exec, B.bytes, hml, findClass_of_methodNamed B.named, atoms_spec (ws := wsL_come) B.pre, hK, hA⟩
  have hr := B.returns
  have hlocks := B.notSynchronized
  have hS : va_S A s.heap s.heap [] := va_S.rf
  have hl := kh_entry ([.ref (ad 0 0), .int x1, .ref (ad 60 0)]) (n := 4) (kh_ac rfl (kh_ac rfl (kh_ac rfl kh_an))) (Nat.le_of_ble_eq_true rfl)
  rw [lg_entry_eq]
  generalize (lg_sl ([.ref (ad 0 0), .int x1, .ref (ad 60 0)]) ++ List.replicate (4 - (lg_sl ([.ref (ad 0 0), .int x1, .ref (ad 60 0)])).length) Slot.unset).toArray = ls at hl ⊢
  have hl : kh_lv ls 4 [(0, .ref (ad 0 0)), (1, .int x1), (2, .ref (ad 60 0))] := hl
  have hF := hF0
  unfold f_L_come at hF
  refine lv_aload_n C.1 C.2.1 dL_come_0 rfl (kh_at hl 2 rfl) ?_
  refine lv_iconst (v := (0 : Int32)) C.1 C.2.1 dL_come_1 (by decide) ?_
  refine lv_aload_n C.1 C.2.1 dL_come_2 rfl (kh_at hl 0 rfl) ?_
  refine lv_iload_n C.1 C.2.1 dL_come_3 rfl (kh_at hl 1 rfl) ?_
  rcases kh_hx_ok hF with ⟨E, ρ1, h9, hg, hy⟩ | ⟨⟨r9, ρ1⟩, h9, hF⟩
  · refine kh_xcallX (vx_runV (As := [.int x1]) (rest := [.int (0 : Int32), .ref (ad 60 0)]) ⟨C.1, C.2.1, C.2.2.1, C.2.2.2.1, C.2.2.2.2.1⟩ (c_X4_come l hlt D ca A ad ρ x1 h9) (cwV 1 C.2.2.2.2.1 gL_come_X4_come rfl rfl rfl (by decide +kernel) ⟨Nat.le_of_ble_eq_true rfl, Nat.le_of_ble_eq_true rfl⟩) (kh_preVJ C hT hw hS 0 (kh_z0 ρ) kh_kd0 rfl) rfl rfl hl.1.1 rfl (lv_room (kh_sum (kh_ac rfl (kh_ac rfl kh_an)) (Nat.le_of_ble_eq_true rfl))) dL_come_4 ⟨Nat.le_of_ble_eq_true rfl, Nat.le_of_ble_eq_true rfl⟩) hS h9 (kh_notYiN h9) (fun H locs ce q9 hw hS g7 g8 g9 => ?_)
    have hF : (if E = kh_E3 then some (1 : Int32) else (if E = kh_E2 then some (2 : Int32) else none)) = some q0.1 := hg
    by_cases c0 : E = kh_E3
    · have hF := kh_ift hF c0
      refine vx_catch (E := kh_E3) (name := kh_E3) C.2.2.2.1 [] ⟨0, 9, 12, 21⟩ [⟨0, 9, 15, 15⟩] htb (fun z hz => absurd hz List.not_mem_nil) (by decide) (by decide) (C.2.2.2.2.1 (.classLink RL 21 kh_E3) (by decide +kernel)) (va_Nw.use rfl hT.2.2.2.2.2.2.1) g7 g8 (by rw [← c0]; exact g9) ?_
      refine lv_astore_n C.1 C.2.1 dL_come_12 rfl hl.1 (by decide) rfl (fun ls h6 => ?_)
      refine lv_iconst (v := (1 : Int32)) C.1 C.2.1 dL_come_13 (by decide) ?_
      refine W.widen (k := 3) (n := 23) (Nat.le_of_ble_eq_true rfl) (Nat.le_of_ble_eq_true rfl) ?_
      exact W.iret (v := (1 : Int32)) C.1 C.2.1 hr (fun t ht hW => ⟨⟨(1 : Int32), (ad, ρ1), rfl, ⟨hF0.trans (congrArg some (Prod.ext (Option.some.inj hF).symm hy)), kh_agr ad ρ⟩, kh_bk ht hw⟩, hS.F ht⟩) hS.2.2 dL_come_14
    have hF := kh_iff hF c0
    by_cases c1 : E = kh_E2
    · have hF := kh_ift hF c1
      refine vx_catch (E := kh_E2) (name := kh_E2) C.2.2.2.1 [⟨0, 9, 12, 21⟩] ⟨0, 9, 15, 15⟩ [] htb (List.forall_mem_cons.mpr ⟨Or.inr ⟨by decide, kh_E3, C.2.2.2.2.1 (.classLink RL 21 kh_E3) (by decide +kernel), hN.2.2⟩, (fun z hz => absurd hz List.not_mem_nil)⟩) (by decide) (by decide) (C.2.2.2.2.1 (.classLink RL 15 kh_E2) (by decide +kernel)) (va_Nw.use rfl hT.2.2.2.2.1.2.1) g7 g8 (by rw [← c1]; exact g9) ?_
      refine lv_astore_n C.1 C.2.1 dL_come_15 rfl hl.1 (by decide) rfl (fun ls h6 => ?_)
      refine lv_iconst (v := (2 : Int32)) C.1 C.2.1 dL_come_16 (by decide) ?_
      refine W.widen (k := 3) (n := 23) (Nat.le_of_ble_eq_true rfl) (Nat.le_of_ble_eq_true rfl) ?_
      exact W.iret (v := (2 : Int32)) C.1 C.2.1 hr (fun t ht hW => ⟨⟨(2 : Int32), (ad, ρ1), rfl, ⟨hF0.trans (congrArg some (Prod.ext (Option.some.inj hF).symm hy)), kh_agr ad ρ⟩, kh_bk ht hw⟩, hS.F ht⟩) hS.2.2 dL_come_17
    have hF := kh_iff hF c1
    exact absurd hF (fun z => nomatch z)
  refine kh_xcallN (vx_runV (As := [.int x1]) (rest := [.int (0 : Int32), .ref (ad 60 0)]) ⟨C.1, C.2.1, C.2.2.1, C.2.2.2.1, C.2.2.2.2.1⟩ (c_X4_come l hlt D ca A ad ρ x1 h9) (cwV 1 C.2.2.2.2.1 gL_come_X4_come rfl rfl rfl (by decide +kernel) ⟨Nat.le_of_ble_eq_true rfl, Nat.le_of_ble_eq_true rfl⟩) (kh_preVJ C hT hw hS 0 (kh_z0 ρ) kh_kd0 rfl) rfl rfl hl.1.1 rfl (lv_room (kh_sum (kh_ac rfl (kh_ac rfl kh_an)) (Nat.le_of_ble_eq_true rfl))) dL_come_4 ⟨Nat.le_of_ble_eq_true rfl, Nat.le_of_ble_eq_true rfl⟩) hS h9 (fun ad2 H locs hag hw hS => ?_)
  refine lv_i2l (v := r9.toInt64) C.1 C.2.1 dL_come_7 rfl ?_
  refine kh_last C hw hS 60 (x := r9) (congrArg Value.ref (hag 60 0 (kh_z60 ρ)).symm) (kh_z60 ρ1) (by decide) kh_kd60 (by decide) rfl dL_come_8 (fun H locs hw hS => ?_)
  refine lv_goto (tgt := 18) C.1 C.2.1 dL_come_9 (by decide) ?_
  refine lv_iconst (v := (0 : Int32)) C.1 C.2.1 dL_come_18 (by decide) ?_
  refine W.widen (k := 3) (n := 23) (Nat.le_of_ble_eq_true rfl) (Nat.le_of_ble_eq_true rfl) ?_
  exact W.iret (v := (0 : Int32)) C.1 C.2.1 hr (fun t ht hW => ⟨⟨(0 : Int32), (ad2, kh_up ρ1 60 0 0 (0 : Int32).toNatClampNeg r9), rfl, ⟨hF0.trans hF.symm, hag⟩, kh_bk ht hw⟩, hS.F ht⟩) hS.2.2 dL_come_19

def f_L_solve (ρ : kh_S) (x1 : Int32) (x2 : Int32) : Option (Int32 × kh_S) := kh_hx (f_X4_solve ρ x1 x2) (fun E => if E = kh_E3 then some (1 : Int32) else (if E = kh_E2 then some (2 : Int32) else none)) (fun r => some ((0 : Int32), kh_up r.2 60 0 0 (0 : Int32).toNatClampNeg r.1))
set_option maxHeartbeats 4000000 in
set_option maxRecDepth 100000 in
theorem c_L_solve (l : Launch) (hlt : l.stackTraces = false) (D : va_G) (ca : Nat → ClassId) (A : Nat → Prop) (ad : Nat → Nat → Nat) (ρ : kh_S) (x1 : Int32) (x2 : Int32) {q0 : Int32 × kh_S} (hF0 : f_L_solve ρ x1 x2 = some q0) : Met l yL_solve wsL_solve ({ frames := 8, cells := 2, slots := 12, locals := 135 } : Room) (va_Pc [.ref (ad 0 0), .int x1, .int x2, .ref (ad 60 0)] (kh_JL D ca A ad ρ)) (kh_Qi D ca A ad (f_L_solve ρ x1 x2)) 2 12 A := by
  refine kh_ofWH (cc := cL_solve) (maxL := 5) (ret := some .int) (hh := [(0, 10, 13, 21), (0, 10, 17, 15)]) (by decide) rfl ?_
  intro p e s m args below meth c s₁ B hml htb hv
  obtain ⟨rfl, ⟨⟨hK, hw, hA⟩, hT⟩, hN⟩ := hv
  have C : kh_C p s m ([.ref (ad 0 0), .int x1, .int x2, .ref (ad 60 0)]).toArray c cL_solve 5 RL wsL_solve D ca A := ⟨B.exec, B.bytes, hml, findClass_of_methodNamed B.named, atoms_spec (ws := wsL_solve) B.pre, hK, hA⟩
  have hr := B.returns
  have hlocks := B.notSynchronized
  have hS : va_S A s.heap s.heap [] := va_S.rf
  have hl := kh_entry ([.ref (ad 0 0), .int x1, .int x2, .ref (ad 60 0)]) (n := 5) (kh_ac rfl (kh_ac rfl (kh_ac rfl (kh_ac rfl kh_an)))) (Nat.le_of_ble_eq_true rfl)
  rw [lg_entry_eq]
  generalize (lg_sl ([.ref (ad 0 0), .int x1, .int x2, .ref (ad 60 0)]) ++ List.replicate (5 - (lg_sl ([.ref (ad 0 0), .int x1, .int x2, .ref (ad 60 0)])).length) Slot.unset).toArray = ls at hl ⊢
  have hl : kh_lv ls 5 [(0, .ref (ad 0 0)), (1, .int x1), (2, .int x2), (3, .ref (ad 60 0))] := hl
  have hF := hF0
  unfold f_L_solve at hF
  refine lv_aload_n C.1 C.2.1 dL_solve_0 rfl (kh_at hl 3 rfl) ?_
  refine lv_iconst (v := (0 : Int32)) C.1 C.2.1 dL_solve_1 (by decide) ?_
  refine lv_aload_n C.1 C.2.1 dL_solve_2 rfl (kh_at hl 0 rfl) ?_
  refine lv_iload_n C.1 C.2.1 dL_solve_3 rfl (kh_at hl 1 rfl) ?_
  refine lv_iload_n C.1 C.2.1 dL_solve_4 rfl (kh_at hl 2 rfl) ?_
  rcases kh_hx_ok hF with ⟨E, ρ1, h9, hg, hy⟩ | ⟨⟨r9, ρ1⟩, h9, hF⟩
  · refine kh_xcallX (vx_runV (As := [.int x1, .int x2]) (rest := [.int (0 : Int32), .ref (ad 60 0)]) ⟨C.1, C.2.1, C.2.2.1, C.2.2.2.1, C.2.2.2.2.1⟩ (c_X4_solve l hlt D ca A ad ρ x1 x2 h9) (cwV 2 C.2.2.2.2.1 gL_solve_X4_solve rfl rfl rfl (by decide +kernel) ⟨Nat.le_of_ble_eq_true rfl, Nat.le_of_ble_eq_true rfl⟩) (kh_preVJ C hT hw hS 0 (kh_z0 ρ) kh_kd0 rfl) rfl rfl hl.1.1 rfl (lv_room (kh_sum (kh_ac rfl (kh_ac rfl kh_an)) (Nat.le_of_ble_eq_true rfl))) dL_solve_5 ⟨Nat.le_of_ble_eq_true rfl, Nat.le_of_ble_eq_true rfl⟩) hS h9 (kh_notYi h9) (fun H locs ce q9 hw hS g7 g8 g9 => ?_)
    have hF : (if E = kh_E3 then some (1 : Int32) else (if E = kh_E2 then some (2 : Int32) else none)) = some q0.1 := hg
    by_cases c0 : E = kh_E3
    · have hF := kh_ift hF c0
      refine vx_catch (E := kh_E3) (name := kh_E3) C.2.2.2.1 [] ⟨0, 10, 13, 21⟩ [⟨0, 10, 17, 15⟩] htb (fun z hz => absurd hz List.not_mem_nil) (by decide) (by decide) (C.2.2.2.2.1 (.classLink RL 21 kh_E3) (by decide +kernel)) (va_Nw.use rfl hT.2.2.2.2.2.2.1) g7 g8 (by rw [← c0]; exact g9) ?_
      refine lv_astore C.1 C.2.1 dL_solve_13 hl.1 (by decide) rfl (fun ls h6 => ?_)
      refine lv_iconst (v := (1 : Int32)) C.1 C.2.1 dL_solve_15 (by decide) ?_
      refine W.widen (k := 2) (n := 12) (Nat.le_of_ble_eq_true rfl) (Nat.le_of_ble_eq_true rfl) ?_
      exact W.iret (v := (1 : Int32)) C.1 C.2.1 hr (fun t ht hW => ⟨⟨(1 : Int32), ρ1, rfl, hF0.trans (congrArg some (Prod.ext (Option.some.inj hF).symm hy)), kh_bk ht hw⟩, hS.F ht⟩) hS.2.2 dL_solve_16
    have hF := kh_iff hF c0
    by_cases c1 : E = kh_E2
    · have hF := kh_ift hF c1
      refine vx_catch (E := kh_E2) (name := kh_E2) C.2.2.2.1 [⟨0, 10, 13, 21⟩] ⟨0, 10, 17, 15⟩ [] htb (List.forall_mem_cons.mpr ⟨Or.inr ⟨by decide, kh_E3, C.2.2.2.2.1 (.classLink RL 21 kh_E3) (by decide +kernel), hN.2.2⟩, (fun z hz => absurd hz List.not_mem_nil)⟩) (by decide) (by decide) (C.2.2.2.2.1 (.classLink RL 15 kh_E2) (by decide +kernel)) (va_Nw.use rfl hT.2.2.2.2.1.2.1) g7 g8 (by rw [← c1]; exact g9) ?_
      refine lv_astore C.1 C.2.1 dL_solve_17 hl.1 (by decide) rfl (fun ls h6 => ?_)
      refine lv_iconst (v := (2 : Int32)) C.1 C.2.1 dL_solve_19 (by decide) ?_
      refine W.widen (k := 2) (n := 12) (Nat.le_of_ble_eq_true rfl) (Nat.le_of_ble_eq_true rfl) ?_
      exact W.iret (v := (2 : Int32)) C.1 C.2.1 hr (fun t ht hW => ⟨⟨(2 : Int32), ρ1, rfl, hF0.trans (congrArg some (Prod.ext (Option.some.inj hF).symm hy)), kh_bk ht hw⟩, hS.F ht⟩) hS.2.2 dL_solve_20
    have hF := kh_iff hF c1
    exact absurd hF (fun z => nomatch z)
  refine kh_xcalli (vx_runV (As := [.int x1, .int x2]) (rest := [.int (0 : Int32), .ref (ad 60 0)]) ⟨C.1, C.2.1, C.2.2.1, C.2.2.2.1, C.2.2.2.2.1⟩ (c_X4_solve l hlt D ca A ad ρ x1 x2 h9) (cwV 2 C.2.2.2.2.1 gL_solve_X4_solve rfl rfl rfl (by decide +kernel) ⟨Nat.le_of_ble_eq_true rfl, Nat.le_of_ble_eq_true rfl⟩) (kh_preVJ C hT hw hS 0 (kh_z0 ρ) kh_kd0 rfl) rfl rfl hl.1.1 rfl (lv_room (kh_sum (kh_ac rfl (kh_ac rfl kh_an)) (Nat.le_of_ble_eq_true rfl))) dL_solve_5 ⟨Nat.le_of_ble_eq_true rfl, Nat.le_of_ble_eq_true rfl⟩) hS h9 (fun H locs hw hS => ?_)
  refine lv_i2l (v := r9.toInt64) C.1 C.2.1 dL_solve_8 rfl ?_
  refine kh_last C hw hS 60 (x := r9) rfl (kh_z60 ρ1) (by decide) kh_kd60 (by decide) rfl dL_solve_9 (fun H locs hw hS => ?_)
  refine lv_goto (tgt := 21) C.1 C.2.1 dL_solve_10 (by decide) ?_
  refine lv_iconst (v := (0 : Int32)) C.1 C.2.1 dL_solve_21 (by decide) ?_
  refine W.widen (k := 2) (n := 12) (Nat.le_of_ble_eq_true rfl) (Nat.le_of_ble_eq_true rfl) ?_
  exact W.iret (v := (0 : Int32)) C.1 C.2.1 hr (fun t ht hW => ⟨⟨(0 : Int32), kh_up ρ1 60 0 0 (0 : Int32).toNatClampNeg r9, rfl, hF0.trans hF.symm, kh_bk ht hw⟩, hS.F ht⟩) hS.2.2 dL_solve_22

def f_L_hint (ρ : kh_S) (x1 : Int32) : Option (Int32 × kh_S) := kh_hx (f_X4_hint ρ x1) (fun E => if E = kh_E3 then some (1 : Int32) else (if E = kh_E2 then some (2 : Int32) else none)) (fun r => some ((0 : Int32), kh_up r.2 60 0 0 (0 : Int32).toNatClampNeg r.1))
set_option maxHeartbeats 4000000 in
set_option maxRecDepth 100000 in
theorem c_L_hint (l : Launch) (hlt : l.stackTraces = false) (D : va_G) (ca : Nat → ClassId) (A : Nat → Prop) (ad : Nat → Nat → Nat) (ρ : kh_S) (x1 : Int32) {q0 : Int32 × kh_S} (hF0 : f_L_hint ρ x1 = some q0) : Met l yL_hint wsL_hint ({ frames := 8, cells := 2, slots := 12, locals := 134 } : Room) (va_Pc [.ref (ad 0 0), .int x1, .ref (ad 60 0)] (kh_JL D ca A ad ρ)) (kh_Qi D ca A ad (f_L_hint ρ x1)) 2 12 A := by
  refine kh_ofWH (cc := cL_hint) (maxL := 4) (ret := some .int) (hh := [(0, 9, 12, 21), (0, 9, 15, 15)]) (by decide) rfl ?_
  intro p e s m args below meth c s₁ B hml htb hv
  obtain ⟨rfl, ⟨⟨hK, hw, hA⟩, hT⟩, hN⟩ := hv
  have C : kh_C p s m ([.ref (ad 0 0), .int x1, .ref (ad 60 0)]).toArray c cL_hint 4 RL wsL_hint D ca A := ⟨B.exec, B.bytes, hml, findClass_of_methodNamed B.named, atoms_spec (ws := wsL_hint) B.pre, hK, hA⟩
  have hr := B.returns
  have hlocks := B.notSynchronized
  have hS : va_S A s.heap s.heap [] := va_S.rf
  have hl := kh_entry ([.ref (ad 0 0), .int x1, .ref (ad 60 0)]) (n := 4) (kh_ac rfl (kh_ac rfl (kh_ac rfl kh_an))) (Nat.le_of_ble_eq_true rfl)
  rw [lg_entry_eq]
  generalize (lg_sl ([.ref (ad 0 0), .int x1, .ref (ad 60 0)]) ++ List.replicate (4 - (lg_sl ([.ref (ad 0 0), .int x1, .ref (ad 60 0)])).length) Slot.unset).toArray = ls at hl ⊢
  have hl : kh_lv ls 4 [(0, .ref (ad 0 0)), (1, .int x1), (2, .ref (ad 60 0))] := hl
  have hF := hF0
  unfold f_L_hint at hF
  refine lv_aload_n C.1 C.2.1 dL_hint_0 rfl (kh_at hl 2 rfl) ?_
  refine lv_iconst (v := (0 : Int32)) C.1 C.2.1 dL_hint_1 (by decide) ?_
  refine lv_aload_n C.1 C.2.1 dL_hint_2 rfl (kh_at hl 0 rfl) ?_
  refine lv_iload_n C.1 C.2.1 dL_hint_3 rfl (kh_at hl 1 rfl) ?_
  rcases kh_hx_ok hF with ⟨E, ρ1, h9, hg, hy⟩ | ⟨⟨r9, ρ1⟩, h9, hF⟩
  · refine kh_xcallX (vx_runV (As := [.int x1]) (rest := [.int (0 : Int32), .ref (ad 60 0)]) ⟨C.1, C.2.1, C.2.2.1, C.2.2.2.1, C.2.2.2.2.1⟩ (c_X4_hint l hlt D ca A ad ρ x1 h9) (cwV 1 C.2.2.2.2.1 gL_hint_X4_hint rfl rfl rfl (by decide +kernel) ⟨Nat.le_of_ble_eq_true rfl, Nat.le_of_ble_eq_true rfl⟩) (kh_preVJ C hT hw hS 0 (kh_z0 ρ) kh_kd0 rfl) rfl rfl hl.1.1 rfl (lv_room (kh_sum (kh_ac rfl (kh_ac rfl kh_an)) (Nat.le_of_ble_eq_true rfl))) dL_hint_4 ⟨Nat.le_of_ble_eq_true rfl, Nat.le_of_ble_eq_true rfl⟩) hS h9 (kh_notYi h9) (fun H locs ce q9 hw hS g7 g8 g9 => ?_)
    have hF : (if E = kh_E3 then some (1 : Int32) else (if E = kh_E2 then some (2 : Int32) else none)) = some q0.1 := hg
    by_cases c0 : E = kh_E3
    · have hF := kh_ift hF c0
      refine vx_catch (E := kh_E3) (name := kh_E3) C.2.2.2.1 [] ⟨0, 9, 12, 21⟩ [⟨0, 9, 15, 15⟩] htb (fun z hz => absurd hz List.not_mem_nil) (by decide) (by decide) (C.2.2.2.2.1 (.classLink RL 21 kh_E3) (by decide +kernel)) (va_Nw.use rfl hT.2.2.2.2.2.2.1) g7 g8 (by rw [← c0]; exact g9) ?_
      refine lv_astore_n C.1 C.2.1 dL_hint_12 rfl hl.1 (by decide) rfl (fun ls h6 => ?_)
      refine lv_iconst (v := (1 : Int32)) C.1 C.2.1 dL_hint_13 (by decide) ?_
      refine W.widen (k := 2) (n := 12) (Nat.le_of_ble_eq_true rfl) (Nat.le_of_ble_eq_true rfl) ?_
      exact W.iret (v := (1 : Int32)) C.1 C.2.1 hr (fun t ht hW => ⟨⟨(1 : Int32), ρ1, rfl, hF0.trans (congrArg some (Prod.ext (Option.some.inj hF).symm hy)), kh_bk ht hw⟩, hS.F ht⟩) hS.2.2 dL_hint_14
    have hF := kh_iff hF c0
    by_cases c1 : E = kh_E2
    · have hF := kh_ift hF c1
      refine vx_catch (E := kh_E2) (name := kh_E2) C.2.2.2.1 [⟨0, 9, 12, 21⟩] ⟨0, 9, 15, 15⟩ [] htb (List.forall_mem_cons.mpr ⟨Or.inr ⟨by decide, kh_E3, C.2.2.2.2.1 (.classLink RL 21 kh_E3) (by decide +kernel), hN.2.2⟩, (fun z hz => absurd hz List.not_mem_nil)⟩) (by decide) (by decide) (C.2.2.2.2.1 (.classLink RL 15 kh_E2) (by decide +kernel)) (va_Nw.use rfl hT.2.2.2.2.1.2.1) g7 g8 (by rw [← c1]; exact g9) ?_
      refine lv_astore_n C.1 C.2.1 dL_hint_15 rfl hl.1 (by decide) rfl (fun ls h6 => ?_)
      refine lv_iconst (v := (2 : Int32)) C.1 C.2.1 dL_hint_16 (by decide) ?_
      refine W.widen (k := 2) (n := 12) (Nat.le_of_ble_eq_true rfl) (Nat.le_of_ble_eq_true rfl) ?_
      exact W.iret (v := (2 : Int32)) C.1 C.2.1 hr (fun t ht hW => ⟨⟨(2 : Int32), ρ1, rfl, hF0.trans (congrArg some (Prod.ext (Option.some.inj hF).symm hy)), kh_bk ht hw⟩, hS.F ht⟩) hS.2.2 dL_hint_17
    have hF := kh_iff hF c1
    exact absurd hF (fun z => nomatch z)
  refine kh_xcalli (vx_runV (As := [.int x1]) (rest := [.int (0 : Int32), .ref (ad 60 0)]) ⟨C.1, C.2.1, C.2.2.1, C.2.2.2.1, C.2.2.2.2.1⟩ (c_X4_hint l hlt D ca A ad ρ x1 h9) (cwV 1 C.2.2.2.2.1 gL_hint_X4_hint rfl rfl rfl (by decide +kernel) ⟨Nat.le_of_ble_eq_true rfl, Nat.le_of_ble_eq_true rfl⟩) (kh_preVJ C hT hw hS 0 (kh_z0 ρ) kh_kd0 rfl) rfl rfl hl.1.1 rfl (lv_room (kh_sum (kh_ac rfl (kh_ac rfl kh_an)) (Nat.le_of_ble_eq_true rfl))) dL_hint_4 ⟨Nat.le_of_ble_eq_true rfl, Nat.le_of_ble_eq_true rfl⟩) hS h9 (fun H locs hw hS => ?_)
  refine lv_i2l (v := r9.toInt64) C.1 C.2.1 dL_hint_7 rfl ?_
  refine kh_last C hw hS 60 (x := r9) rfl (kh_z60 ρ1) (by decide) kh_kd60 (by decide) rfl dL_hint_8 (fun H locs hw hS => ?_)
  refine lv_goto (tgt := 18) C.1 C.2.1 dL_hint_9 (by decide) ?_
  refine lv_iconst (v := (0 : Int32)) C.1 C.2.1 dL_hint_18 (by decide) ?_
  refine W.widen (k := 2) (n := 12) (Nat.le_of_ble_eq_true rfl) (Nat.le_of_ble_eq_true rfl) ?_
  exact W.iret (v := (0 : Int32)) C.1 C.2.1 hr (fun t ht hW => ⟨⟨(0 : Int32), kh_up ρ1 60 0 0 (0 : Int32).toNatClampNeg r9, rfl, hF0.trans hF.symm, kh_bk ht hw⟩, hS.F ht⟩) hS.2.2 dL_hint_19

def f_L_giveUp (ρ : kh_S) (x1 : Int32) : Option (Int32 × kh_S) := kh_hx (f_X4_giveUp ρ x1) (fun E => if E = kh_E3 then some (1 : Int32) else (if E = kh_E2 then some (2 : Int32) else none)) (fun r => some ((0 : Int32), r))
set_option maxHeartbeats 4000000 in
set_option maxRecDepth 100000 in
theorem c_L_giveUp (l : Launch) (hlt : l.stackTraces = false) (D : va_G) (ca : Nat → ClassId) (A : Nat → Prop) (ad : Nat → Nat → Nat) (ρ : kh_S) (x1 : Int32) {q0 : Int32 × kh_S} (hF0 : f_L_giveUp ρ x1 = some q0) : Met l yL_giveUp wsL_giveUp ({ frames := 8, cells := 2, slots := 12, locals := 133 } : Room) (va_Pc [.ref (ad 0 0), .int x1] (kh_JL D ca A ad ρ)) (kh_Qi D ca A ad (f_L_giveUp ρ x1)) 2 12 A := by
  refine kh_ofWH (cc := cL_giveUp) (maxL := 3) (ret := some .int) (hh := [(0, 5, 8, 21), (0, 5, 11, 15)]) (by decide) rfl ?_
  intro p e s m args below meth c s₁ B hml htb hv
  obtain ⟨rfl, ⟨⟨hK, hw, hA⟩, hT⟩, hN⟩ := hv
  have C : kh_C p s m ([.ref (ad 0 0), .int x1]).toArray c cL_giveUp 3 RL wsL_giveUp D ca A := ⟨B.exec, B.bytes, hml, findClass_of_methodNamed B.named, atoms_spec (ws := wsL_giveUp) B.pre, hK, hA⟩
  have hr := B.returns
  have hlocks := B.notSynchronized
  have hS : va_S A s.heap s.heap [] := va_S.rf
  have hl := kh_entry ([.ref (ad 0 0), .int x1]) (n := 3) (kh_ac rfl (kh_ac rfl kh_an)) (Nat.le_of_ble_eq_true rfl)
  rw [lg_entry_eq]
  generalize (lg_sl ([.ref (ad 0 0), .int x1]) ++ List.replicate (3 - (lg_sl ([.ref (ad 0 0), .int x1])).length) Slot.unset).toArray = ls at hl ⊢
  have hl : kh_lv ls 3 [(0, .ref (ad 0 0)), (1, .int x1)] := hl
  have hF := hF0
  unfold f_L_giveUp at hF
  refine lv_aload_n C.1 C.2.1 dL_giveUp_0 rfl (kh_at hl 0 rfl) ?_
  refine lv_iload_n C.1 C.2.1 dL_giveUp_1 rfl (kh_at hl 1 rfl) ?_
  rcases kh_hx_ok hF with ⟨E, ρ1, h9, hg, hy⟩ | ⟨ρ1, h9, hF⟩
  · refine kh_xcallX (vx_runV (As := [.int x1]) (rest := []) ⟨C.1, C.2.1, C.2.2.1, C.2.2.2.1, C.2.2.2.2.1⟩ (c_X4_giveUp l hlt D ca A ad ρ x1 h9) (cwV 1 C.2.2.2.2.1 gL_giveUp_X4_giveUp rfl rfl rfl (by decide +kernel) ⟨Nat.le_of_ble_eq_true rfl, Nat.le_of_ble_eq_true rfl⟩) (kh_preVJ C hT hw hS 0 (kh_z0 ρ) kh_kd0 rfl) rfl rfl hl.1.1 rfl (lv_room (kh_sum kh_an (Nat.le_of_ble_eq_true rfl))) dL_giveUp_2 ⟨Nat.le_of_ble_eq_true rfl, Nat.le_of_ble_eq_true rfl⟩) hS h9 (kh_notYv h9) (fun H locs ce q9 hw hS g7 g8 g9 => ?_)
    have hF : (if E = kh_E3 then some (1 : Int32) else (if E = kh_E2 then some (2 : Int32) else none)) = some q0.1 := hg
    by_cases c0 : E = kh_E3
    · have hF := kh_ift hF c0
      refine vx_catch (E := kh_E3) (name := kh_E3) C.2.2.2.1 [] ⟨0, 5, 8, 21⟩ [⟨0, 5, 11, 15⟩] htb (fun z hz => absurd hz List.not_mem_nil) (by decide) (by decide) (C.2.2.2.2.1 (.classLink RL 21 kh_E3) (by decide +kernel)) (va_Nw.use rfl hT.2.2.2.2.2.2.1) g7 g8 (by rw [← c0]; exact g9) ?_
      refine lv_astore_n C.1 C.2.1 dL_giveUp_8 rfl hl.1 (by decide) rfl (fun ls h6 => ?_)
      refine lv_iconst (v := (1 : Int32)) C.1 C.2.1 dL_giveUp_9 (by decide) ?_
      refine W.widen (k := 2) (n := 12) (Nat.le_of_ble_eq_true rfl) (Nat.le_of_ble_eq_true rfl) ?_
      exact W.iret (v := (1 : Int32)) C.1 C.2.1 hr (fun t ht hW => ⟨⟨(1 : Int32), ρ1, rfl, hF0.trans (congrArg some (Prod.ext (Option.some.inj hF).symm hy)), kh_bk ht hw⟩, hS.F ht⟩) hS.2.2 dL_giveUp_10
    have hF := kh_iff hF c0
    by_cases c1 : E = kh_E2
    · have hF := kh_ift hF c1
      refine vx_catch (E := kh_E2) (name := kh_E2) C.2.2.2.1 [⟨0, 5, 8, 21⟩] ⟨0, 5, 11, 15⟩ [] htb (List.forall_mem_cons.mpr ⟨Or.inr ⟨by decide, kh_E3, C.2.2.2.2.1 (.classLink RL 21 kh_E3) (by decide +kernel), hN.2.2⟩, (fun z hz => absurd hz List.not_mem_nil)⟩) (by decide) (by decide) (C.2.2.2.2.1 (.classLink RL 15 kh_E2) (by decide +kernel)) (va_Nw.use rfl hT.2.2.2.2.1.2.1) g7 g8 (by rw [← c1]; exact g9) ?_
      refine lv_astore_n C.1 C.2.1 dL_giveUp_11 rfl hl.1 (by decide) rfl (fun ls h6 => ?_)
      refine lv_iconst (v := (2 : Int32)) C.1 C.2.1 dL_giveUp_12 (by decide) ?_
      refine W.widen (k := 2) (n := 12) (Nat.le_of_ble_eq_true rfl) (Nat.le_of_ble_eq_true rfl) ?_
      exact W.iret (v := (2 : Int32)) C.1 C.2.1 hr (fun t ht hW => ⟨⟨(2 : Int32), ρ1, rfl, hF0.trans (congrArg some (Prod.ext (Option.some.inj hF).symm hy)), kh_bk ht hw⟩, hS.F ht⟩) hS.2.2 dL_giveUp_13
    have hF := kh_iff hF c1
    exact absurd hF (fun z => nomatch z)
  refine kh_xcallv (vx_runV (As := [.int x1]) (rest := []) ⟨C.1, C.2.1, C.2.2.1, C.2.2.2.1, C.2.2.2.2.1⟩ (c_X4_giveUp l hlt D ca A ad ρ x1 h9) (cwV 1 C.2.2.2.2.1 gL_giveUp_X4_giveUp rfl rfl rfl (by decide +kernel) ⟨Nat.le_of_ble_eq_true rfl, Nat.le_of_ble_eq_true rfl⟩) (kh_preVJ C hT hw hS 0 (kh_z0 ρ) kh_kd0 rfl) rfl rfl hl.1.1 rfl (lv_room (kh_sum kh_an (Nat.le_of_ble_eq_true rfl))) dL_giveUp_2 ⟨Nat.le_of_ble_eq_true rfl, Nat.le_of_ble_eq_true rfl⟩) hS h9 (fun H locs hw hS => ?_)
  refine lv_goto (tgt := 14) C.1 C.2.1 dL_giveUp_5 (by decide) ?_
  refine lv_iconst (v := (0 : Int32)) C.1 C.2.1 dL_giveUp_14 (by decide) ?_
  refine W.widen (k := 2) (n := 12) (Nat.le_of_ble_eq_true rfl) (Nat.le_of_ble_eq_true rfl) ?_
  exact W.iret (v := (0 : Int32)) C.1 C.2.1 hr (fun t ht hW => ⟨⟨(0 : Int32), ρ1, rfl, hF0.trans hF.symm, kh_bk ht hw⟩, hS.F ht⟩) hS.2.2 dL_giveUp_15

def f_L_reset (ρ : kh_S) (x1 : Int32) (x2 : Int32) (x3 : Int32) : Option (Int32 × kh_S) := kh_hx (f_X4_reset ρ x1 x2 x3) (fun E => if E = kh_E3 then some (1 : Int32) else (if E = kh_E2 then some (2 : Int32) else none)) (fun r => some ((0 : Int32), r))
set_option maxHeartbeats 4000000 in
set_option maxRecDepth 100000 in
theorem c_L_reset (l : Launch) (hlt : l.stackTraces = false) (D : va_G) (ca : Nat → ClassId) (A : Nat → Prop) (ad : Nat → Nat → Nat) (ρ : kh_S) (x1 : Int32) (x2 : Int32) (x3 : Int32) {q0 : Int32 × kh_S} (hF0 : f_L_reset ρ x1 x2 x3 = some q0) : Met l yL_reset wsL_reset ({ frames := 8, cells := 3, slots := 18, locals := 136 } : Room) (va_Pc [.ref (ad 0 0), .int x1, .int x2, .int x3] (kh_JL D ca A ad ρ)) (kh_Qi D ca A ad (f_L_reset ρ x1 x2 x3)) 3 18 A := by
  refine kh_ofWH (cc := cL_reset) (maxL := 5) (ret := some .int) (hh := [(0, 7, 10, 21), (0, 7, 14, 15)]) (by decide) rfl ?_
  intro p e s m args below meth c s₁ B hml htb hv
  obtain ⟨rfl, ⟨⟨hK, hw, hA⟩, hT⟩, hN⟩ := hv
  have C : kh_C p s m ([.ref (ad 0 0), .int x1, .int x2, .int x3]).toArray c cL_reset 5 RL wsL_reset D ca A := ⟨B.exec, B.bytes, hml, findClass_of_methodNamed B.named, atoms_spec (ws := wsL_reset) B.pre, hK, hA⟩
  have hr := B.returns
  have hlocks := B.notSynchronized
  have hS : va_S A s.heap s.heap [] := va_S.rf
  have hl := kh_entry ([.ref (ad 0 0), .int x1, .int x2, .int x3]) (n := 5) (kh_ac rfl (kh_ac rfl (kh_ac rfl (kh_ac rfl kh_an)))) (Nat.le_of_ble_eq_true rfl)
  rw [lg_entry_eq]
  generalize (lg_sl ([.ref (ad 0 0), .int x1, .int x2, .int x3]) ++ List.replicate (5 - (lg_sl ([.ref (ad 0 0), .int x1, .int x2, .int x3])).length) Slot.unset).toArray = ls at hl ⊢
  have hl : kh_lv ls 5 [(0, .ref (ad 0 0)), (1, .int x1), (2, .int x2), (3, .int x3)] := hl
  have hF := hF0
  unfold f_L_reset at hF
  refine lv_aload_n C.1 C.2.1 dL_reset_0 rfl (kh_at hl 0 rfl) ?_
  refine lv_iload_n C.1 C.2.1 dL_reset_1 rfl (kh_at hl 1 rfl) ?_
  refine lv_iload_n C.1 C.2.1 dL_reset_2 rfl (kh_at hl 2 rfl) ?_
  refine lv_iload_n C.1 C.2.1 dL_reset_3 rfl (kh_at hl 3 rfl) ?_
  rcases kh_hx_ok hF with ⟨E, ρ1, h9, hg, hy⟩ | ⟨ρ1, h9, hF⟩
  · refine kh_xcallX (vx_runV (As := [.int x1, .int x2, .int x3]) (rest := []) ⟨C.1, C.2.1, C.2.2.1, C.2.2.2.1, C.2.2.2.2.1⟩ (c_X4_reset l hlt D ca A ad ρ x1 x2 x3 h9) (cwV 3 C.2.2.2.2.1 gL_reset_X4_reset rfl rfl rfl (by decide +kernel) ⟨Nat.le_of_ble_eq_true rfl, Nat.le_of_ble_eq_true rfl⟩) (kh_preVJ C hT hw hS 0 (kh_z0 ρ) kh_kd0 rfl) rfl rfl hl.1.1 rfl (lv_room (kh_sum kh_an (Nat.le_of_ble_eq_true rfl))) dL_reset_4 ⟨Nat.le_of_ble_eq_true rfl, Nat.le_of_ble_eq_true rfl⟩) hS h9 (kh_notYv h9) (fun H locs ce q9 hw hS g7 g8 g9 => ?_)
    have hF : (if E = kh_E3 then some (1 : Int32) else (if E = kh_E2 then some (2 : Int32) else none)) = some q0.1 := hg
    by_cases c0 : E = kh_E3
    · have hF := kh_ift hF c0
      refine vx_catch (E := kh_E3) (name := kh_E3) C.2.2.2.1 [] ⟨0, 7, 10, 21⟩ [⟨0, 7, 14, 15⟩] htb (fun z hz => absurd hz List.not_mem_nil) (by decide) (by decide) (C.2.2.2.2.1 (.classLink RL 21 kh_E3) (by decide +kernel)) (va_Nw.use rfl hT.2.2.2.2.2.2.1) g7 g8 (by rw [← c0]; exact g9) ?_
      refine lv_astore C.1 C.2.1 dL_reset_10 hl.1 (by decide) rfl (fun ls h6 => ?_)
      refine lv_iconst (v := (1 : Int32)) C.1 C.2.1 dL_reset_12 (by decide) ?_
      refine W.widen (k := 3) (n := 18) (Nat.le_of_ble_eq_true rfl) (Nat.le_of_ble_eq_true rfl) ?_
      exact W.iret (v := (1 : Int32)) C.1 C.2.1 hr (fun t ht hW => ⟨⟨(1 : Int32), ρ1, rfl, hF0.trans (congrArg some (Prod.ext (Option.some.inj hF).symm hy)), kh_bk ht hw⟩, hS.F ht⟩) hS.2.2 dL_reset_13
    have hF := kh_iff hF c0
    by_cases c1 : E = kh_E2
    · have hF := kh_ift hF c1
      refine vx_catch (E := kh_E2) (name := kh_E2) C.2.2.2.1 [⟨0, 7, 10, 21⟩] ⟨0, 7, 14, 15⟩ [] htb (List.forall_mem_cons.mpr ⟨Or.inr ⟨by decide, kh_E3, C.2.2.2.2.1 (.classLink RL 21 kh_E3) (by decide +kernel), hN.2.2⟩, (fun z hz => absurd hz List.not_mem_nil)⟩) (by decide) (by decide) (C.2.2.2.2.1 (.classLink RL 15 kh_E2) (by decide +kernel)) (va_Nw.use rfl hT.2.2.2.2.1.2.1) g7 g8 (by rw [← c1]; exact g9) ?_
      refine lv_astore C.1 C.2.1 dL_reset_14 hl.1 (by decide) rfl (fun ls h6 => ?_)
      refine lv_iconst (v := (2 : Int32)) C.1 C.2.1 dL_reset_16 (by decide) ?_
      refine W.widen (k := 3) (n := 18) (Nat.le_of_ble_eq_true rfl) (Nat.le_of_ble_eq_true rfl) ?_
      exact W.iret (v := (2 : Int32)) C.1 C.2.1 hr (fun t ht hW => ⟨⟨(2 : Int32), ρ1, rfl, hF0.trans (congrArg some (Prod.ext (Option.some.inj hF).symm hy)), kh_bk ht hw⟩, hS.F ht⟩) hS.2.2 dL_reset_17
    have hF := kh_iff hF c1
    exact absurd hF (fun z => nomatch z)
  refine kh_xcallv (vx_runV (As := [.int x1, .int x2, .int x3]) (rest := []) ⟨C.1, C.2.1, C.2.2.1, C.2.2.2.1, C.2.2.2.2.1⟩ (c_X4_reset l hlt D ca A ad ρ x1 x2 x3 h9) (cwV 3 C.2.2.2.2.1 gL_reset_X4_reset rfl rfl rfl (by decide +kernel) ⟨Nat.le_of_ble_eq_true rfl, Nat.le_of_ble_eq_true rfl⟩) (kh_preVJ C hT hw hS 0 (kh_z0 ρ) kh_kd0 rfl) rfl rfl hl.1.1 rfl (lv_room (kh_sum kh_an (Nat.le_of_ble_eq_true rfl))) dL_reset_4 ⟨Nat.le_of_ble_eq_true rfl, Nat.le_of_ble_eq_true rfl⟩) hS h9 (fun H locs hw hS => ?_)
  refine lv_goto (tgt := 18) C.1 C.2.1 dL_reset_7 (by decide) ?_
  refine lv_iconst (v := (0 : Int32)) C.1 C.2.1 dL_reset_18 (by decide) ?_
  refine W.widen (k := 3) (n := 18) (Nat.le_of_ble_eq_true rfl) (Nat.le_of_ble_eq_true rfl) ?_
  exact W.iret (v := (0 : Int32)) C.1 C.2.1 hr (fun t ht hW => ⟨⟨(0 : Int32), ρ1, rfl, hF0.trans hF.symm, kh_bk ht hw⟩, hS.F ht⟩) hS.2.2 dL_reset_19

def f_L_forget (ρ : kh_S) (x1 : Int32) : Option (Int32 × kh_S) := kh_hx (f_X4_forget ρ x1) (fun E => if E = kh_E3 then some (1 : Int32) else (if E = kh_E2 then some (2 : Int32) else none)) (fun r => some ((0 : Int32), kh_up r.2 60 0 0 (0 : Int32).toNatClampNeg r.1))
set_option maxHeartbeats 4000000 in
set_option maxRecDepth 100000 in
theorem c_L_forget (l : Launch) (hlt : l.stackTraces = false) (D : va_G) (ca : Nat → ClassId) (A : Nat → Prop) (ad : Nat → Nat → Nat) (ρ : kh_S) (x1 : Int32) {q0 : Int32 × kh_S} (hF0 : f_L_forget ρ x1 = some q0) : Met l yL_forget wsL_forget ({ frames := 8, cells := 2, slots := 12, locals := 135 } : Room) (va_Pc [.ref (ad 0 0), .int x1, .ref (ad 60 0)] (kh_JL D ca A ad ρ)) (kh_Qi D ca A ad (f_L_forget ρ x1)) 2 12 A := by
  refine kh_ofWH (cc := cL_forget) (maxL := 4) (ret := some .int) (hh := [(0, 9, 12, 21), (0, 9, 15, 15)]) (by decide) rfl ?_
  intro p e s m args below meth c s₁ B hml htb hv
  obtain ⟨rfl, ⟨⟨hK, hw, hA⟩, hT⟩, hN⟩ := hv
  have C : kh_C p s m ([.ref (ad 0 0), .int x1, .ref (ad 60 0)]).toArray c cL_forget 4 RL wsL_forget D ca A := ⟨B.exec, B.bytes, hml, findClass_of_methodNamed B.named, atoms_spec (ws := wsL_forget) B.pre, hK, hA⟩
  have hr := B.returns
  have hlocks := B.notSynchronized
  have hS : va_S A s.heap s.heap [] := va_S.rf
  have hl := kh_entry ([.ref (ad 0 0), .int x1, .ref (ad 60 0)]) (n := 4) (kh_ac rfl (kh_ac rfl (kh_ac rfl kh_an))) (Nat.le_of_ble_eq_true rfl)
  rw [lg_entry_eq]
  generalize (lg_sl ([.ref (ad 0 0), .int x1, .ref (ad 60 0)]) ++ List.replicate (4 - (lg_sl ([.ref (ad 0 0), .int x1, .ref (ad 60 0)])).length) Slot.unset).toArray = ls at hl ⊢
  have hl : kh_lv ls 4 [(0, .ref (ad 0 0)), (1, .int x1), (2, .ref (ad 60 0))] := hl
  have hF := hF0
  unfold f_L_forget at hF
  refine lv_aload_n C.1 C.2.1 dL_forget_0 rfl (kh_at hl 2 rfl) ?_
  refine lv_iconst (v := (0 : Int32)) C.1 C.2.1 dL_forget_1 (by decide) ?_
  refine lv_aload_n C.1 C.2.1 dL_forget_2 rfl (kh_at hl 0 rfl) ?_
  refine lv_iload_n C.1 C.2.1 dL_forget_3 rfl (kh_at hl 1 rfl) ?_
  rcases kh_hx_ok hF with ⟨E, ρ1, h9, hg, hy⟩ | ⟨⟨r9, ρ1⟩, h9, hF⟩
  · refine kh_xcallX (vx_runV (As := [.int x1]) (rest := [.int (0 : Int32), .ref (ad 60 0)]) ⟨C.1, C.2.1, C.2.2.1, C.2.2.2.1, C.2.2.2.2.1⟩ (c_X4_forget l hlt D ca A ad ρ x1 h9) (cwV 1 C.2.2.2.2.1 gL_forget_X4_forget rfl rfl rfl (by decide +kernel) ⟨Nat.le_of_ble_eq_true rfl, Nat.le_of_ble_eq_true rfl⟩) (kh_preVJ C hT hw hS 0 (kh_z0 ρ) kh_kd0 rfl) rfl rfl hl.1.1 rfl (lv_room (kh_sum (kh_ac rfl (kh_ac rfl kh_an)) (Nat.le_of_ble_eq_true rfl))) dL_forget_4 ⟨Nat.le_of_ble_eq_true rfl, Nat.le_of_ble_eq_true rfl⟩) hS h9 (kh_notYi h9) (fun H locs ce q9 hw hS g7 g8 g9 => ?_)
    have hF : (if E = kh_E3 then some (1 : Int32) else (if E = kh_E2 then some (2 : Int32) else none)) = some q0.1 := hg
    by_cases c0 : E = kh_E3
    · have hF := kh_ift hF c0
      refine vx_catch (E := kh_E3) (name := kh_E3) C.2.2.2.1 [] ⟨0, 9, 12, 21⟩ [⟨0, 9, 15, 15⟩] htb (fun z hz => absurd hz List.not_mem_nil) (by decide) (by decide) (C.2.2.2.2.1 (.classLink RL 21 kh_E3) (by decide +kernel)) (va_Nw.use rfl hT.2.2.2.2.2.2.1) g7 g8 (by rw [← c0]; exact g9) ?_
      refine lv_astore_n C.1 C.2.1 dL_forget_12 rfl hl.1 (by decide) rfl (fun ls h6 => ?_)
      refine lv_iconst (v := (1 : Int32)) C.1 C.2.1 dL_forget_13 (by decide) ?_
      refine W.widen (k := 2) (n := 12) (Nat.le_of_ble_eq_true rfl) (Nat.le_of_ble_eq_true rfl) ?_
      exact W.iret (v := (1 : Int32)) C.1 C.2.1 hr (fun t ht hW => ⟨⟨(1 : Int32), ρ1, rfl, hF0.trans (congrArg some (Prod.ext (Option.some.inj hF).symm hy)), kh_bk ht hw⟩, hS.F ht⟩) hS.2.2 dL_forget_14
    have hF := kh_iff hF c0
    by_cases c1 : E = kh_E2
    · have hF := kh_ift hF c1
      refine vx_catch (E := kh_E2) (name := kh_E2) C.2.2.2.1 [⟨0, 9, 12, 21⟩] ⟨0, 9, 15, 15⟩ [] htb (List.forall_mem_cons.mpr ⟨Or.inr ⟨by decide, kh_E3, C.2.2.2.2.1 (.classLink RL 21 kh_E3) (by decide +kernel), hN.2.2⟩, (fun z hz => absurd hz List.not_mem_nil)⟩) (by decide) (by decide) (C.2.2.2.2.1 (.classLink RL 15 kh_E2) (by decide +kernel)) (va_Nw.use rfl hT.2.2.2.2.1.2.1) g7 g8 (by rw [← c1]; exact g9) ?_
      refine lv_astore_n C.1 C.2.1 dL_forget_15 rfl hl.1 (by decide) rfl (fun ls h6 => ?_)
      refine lv_iconst (v := (2 : Int32)) C.1 C.2.1 dL_forget_16 (by decide) ?_
      refine W.widen (k := 2) (n := 12) (Nat.le_of_ble_eq_true rfl) (Nat.le_of_ble_eq_true rfl) ?_
      exact W.iret (v := (2 : Int32)) C.1 C.2.1 hr (fun t ht hW => ⟨⟨(2 : Int32), ρ1, rfl, hF0.trans (congrArg some (Prod.ext (Option.some.inj hF).symm hy)), kh_bk ht hw⟩, hS.F ht⟩) hS.2.2 dL_forget_17
    have hF := kh_iff hF c1
    exact absurd hF (fun z => nomatch z)
  refine kh_xcalli (vx_runV (As := [.int x1]) (rest := [.int (0 : Int32), .ref (ad 60 0)]) ⟨C.1, C.2.1, C.2.2.1, C.2.2.2.1, C.2.2.2.2.1⟩ (c_X4_forget l hlt D ca A ad ρ x1 h9) (cwV 1 C.2.2.2.2.1 gL_forget_X4_forget rfl rfl rfl (by decide +kernel) ⟨Nat.le_of_ble_eq_true rfl, Nat.le_of_ble_eq_true rfl⟩) (kh_preVJ C hT hw hS 0 (kh_z0 ρ) kh_kd0 rfl) rfl rfl hl.1.1 rfl (lv_room (kh_sum (kh_ac rfl (kh_ac rfl kh_an)) (Nat.le_of_ble_eq_true rfl))) dL_forget_4 ⟨Nat.le_of_ble_eq_true rfl, Nat.le_of_ble_eq_true rfl⟩) hS h9 (fun H locs hw hS => ?_)
  refine lv_i2l (v := r9.toInt64) C.1 C.2.1 dL_forget_7 rfl ?_
  refine kh_last C hw hS 60 (x := r9) rfl (kh_z60 ρ1) (by decide) kh_kd60 (by decide) rfl dL_forget_8 (fun H locs hw hS => ?_)
  refine lv_goto (tgt := 18) C.1 C.2.1 dL_forget_9 (by decide) ?_
  refine lv_iconst (v := (0 : Int32)) C.1 C.2.1 dL_forget_18 (by decide) ?_
  refine W.widen (k := 2) (n := 12) (Nat.le_of_ble_eq_true rfl) (Nat.le_of_ble_eq_true rfl) ?_
  exact W.iret (v := (0 : Int32)) C.1 C.2.1 hr (fun t ht hW => ⟨⟨(0 : Int32), kh_up ρ1 60 0 0 (0 : Int32).toNatClampNeg r9, rfl, hF0.trans hF.symm, kh_bk ht hw⟩, hS.F ht⟩) hS.2.2 dL_forget_19

noncomputable def f_L_book (ρ : kh_S) (x1 : Int32) (x2 : Int32) : Option (Int32 × kh_S) := kh_hx (f_X4_book ρ x1 x2) (fun E => if E = kh_E3 then some (1 : Int32) else (if E = kh_E1 then some (2 : Int32) else (if E = kh_E2 then some (3 : Int32) else none))) (fun r => some ((0 : Int32), kh_up r.2 60 0 0 (0 : Int32).toNatClampNeg r.1))
set_option maxHeartbeats 4000000 in
set_option maxRecDepth 100000 in
theorem c_L_book (l : Launch) (hlt : l.stackTraces = false) (D : va_G) (ca : Nat → ClassId) (A : Nat → Prop) (ad : Nat → Nat → Nat) (ρ : kh_S) (x1 : Int32) (x2 : Int32) {q0 : Int32 × kh_S} (hF0 : f_L_book ρ x1 x2 = some q0) : Met l yL_book wsL_book ({ frames := 8, cells := 2, slots := 12, locals := 135 } : Room) (va_Pc [.ref (ad 0 0), .int x1, .int x2, .ref (ad 60 0)] (kh_JL D ca A ad ρ)) (kh_QiN D ca A ad ρ (f_L_book ρ x1 x2)) 2 12 A := by
  refine kh_ofWH (cc := cL_book) (maxL := 5) (ret := some .int) (hh := [(0, 10, 13, 21), (0, 10, 17, 13), (0, 10, 21, 15)]) (by decide) rfl ?_
  intro p e s m args below meth c s₁ B hml htb hv
  obtain ⟨rfl, ⟨⟨hK, hw, hA⟩, hT⟩, hN⟩ := hv
  have C : kh_C p s m ([.ref (ad 0 0), .int x1, .int x2, .ref (ad 60 0)]).toArray c cL_book 5 RL wsL_book D ca A := ⟨B.exec, B.bytes, hml, findClass_of_methodNamed B.named, atoms_spec (ws := wsL_book) B.pre, hK, hA⟩
  have hr := B.returns
  have hlocks := B.notSynchronized
  have hS : va_S A s.heap s.heap [] := va_S.rf
  have hl := kh_entry ([.ref (ad 0 0), .int x1, .int x2, .ref (ad 60 0)]) (n := 5) (kh_ac rfl (kh_ac rfl (kh_ac rfl (kh_ac rfl kh_an)))) (Nat.le_of_ble_eq_true rfl)
  rw [lg_entry_eq]
  generalize (lg_sl ([.ref (ad 0 0), .int x1, .int x2, .ref (ad 60 0)]) ++ List.replicate (5 - (lg_sl ([.ref (ad 0 0), .int x1, .int x2, .ref (ad 60 0)])).length) Slot.unset).toArray = ls at hl ⊢
  have hl : kh_lv ls 5 [(0, .ref (ad 0 0)), (1, .int x1), (2, .int x2), (3, .ref (ad 60 0))] := hl
  have hF := hF0
  unfold f_L_book at hF
  refine lv_aload_n C.1 C.2.1 dL_book_0 rfl (kh_at hl 3 rfl) ?_
  refine lv_iconst (v := (0 : Int32)) C.1 C.2.1 dL_book_1 (by decide) ?_
  refine lv_aload_n C.1 C.2.1 dL_book_2 rfl (kh_at hl 0 rfl) ?_
  refine lv_iload_n C.1 C.2.1 dL_book_3 rfl (kh_at hl 1 rfl) ?_
  refine lv_iload_n C.1 C.2.1 dL_book_4 rfl (kh_at hl 2 rfl) ?_
  rcases kh_hx_ok hF with ⟨E, ρ1, h9, hg, hy⟩ | ⟨⟨r9, ρ1⟩, h9, hF⟩
  · refine kh_xcallX (vx_runV (As := [.int x1, .int x2]) (rest := [.int (0 : Int32), .ref (ad 60 0)]) ⟨C.1, C.2.1, C.2.2.1, C.2.2.2.1, C.2.2.2.2.1⟩ (c_X4_book l hlt D ca A ad ρ x1 x2 h9) (cwV 2 C.2.2.2.2.1 gL_book_X4_book rfl rfl rfl (by decide +kernel) ⟨Nat.le_of_ble_eq_true rfl, Nat.le_of_ble_eq_true rfl⟩) (kh_preVJ C hT hw hS 0 (kh_z0 ρ) kh_kd0 rfl) rfl rfl hl.1.1 rfl (lv_room (kh_sum (kh_ac rfl (kh_ac rfl kh_an)) (Nat.le_of_ble_eq_true rfl))) dL_book_5 ⟨Nat.le_of_ble_eq_true rfl, Nat.le_of_ble_eq_true rfl⟩) hS h9 (kh_notYiN h9) (fun H locs ce q9 hw hS g7 g8 g9 => ?_)
    have hF : (if E = kh_E3 then some (1 : Int32) else (if E = kh_E1 then some (2 : Int32) else (if E = kh_E2 then some (3 : Int32) else none))) = some q0.1 := hg
    by_cases c0 : E = kh_E3
    · have hF := kh_ift hF c0
      refine vx_catch (E := kh_E3) (name := kh_E3) C.2.2.2.1 [] ⟨0, 10, 13, 21⟩ [⟨0, 10, 17, 13⟩, ⟨0, 10, 21, 15⟩] htb (fun z hz => absurd hz List.not_mem_nil) (by decide) (by decide) (C.2.2.2.2.1 (.classLink RL 21 kh_E3) (by decide +kernel)) (va_Nw.use rfl hT.2.2.2.2.2.2.1) g7 g8 (by rw [← c0]; exact g9) ?_
      refine lv_astore C.1 C.2.1 dL_book_13 hl.1 (by decide) rfl (fun ls h6 => ?_)
      refine lv_iconst (v := (1 : Int32)) C.1 C.2.1 dL_book_15 (by decide) ?_
      refine W.widen (k := 2) (n := 12) (Nat.le_of_ble_eq_true rfl) (Nat.le_of_ble_eq_true rfl) ?_
      exact W.iret (v := (1 : Int32)) C.1 C.2.1 hr (fun t ht hW => ⟨⟨(1 : Int32), (ad, ρ1), rfl, ⟨hF0.trans (congrArg some (Prod.ext (Option.some.inj hF).symm hy)), kh_agr ad ρ⟩, kh_bk ht hw⟩, hS.F ht⟩) hS.2.2 dL_book_16
    have hF := kh_iff hF c0
    by_cases c1 : E = kh_E1
    · have hF := kh_ift hF c1
      refine vx_catch (E := kh_E1) (name := kh_E1) C.2.2.2.1 [⟨0, 10, 13, 21⟩] ⟨0, 10, 17, 13⟩ [⟨0, 10, 21, 15⟩] htb (List.forall_mem_cons.mpr ⟨Or.inr ⟨by decide, kh_E3, C.2.2.2.2.1 (.classLink RL 21 kh_E3) (by decide +kernel), hN.2.1⟩, (fun z hz => absurd hz List.not_mem_nil)⟩) (by decide) (by decide) (C.2.2.2.2.1 (.classLink RL 13 kh_E1) (by decide +kernel)) (va_Nw.use rfl hT.2.2.2.1.2.1) g7 g8 (by rw [← c1]; exact g9) ?_
      refine lv_astore C.1 C.2.1 dL_book_17 hl.1 (by decide) rfl (fun ls h6 => ?_)
      refine lv_iconst (v := (2 : Int32)) C.1 C.2.1 dL_book_19 (by decide) ?_
      refine W.widen (k := 2) (n := 12) (Nat.le_of_ble_eq_true rfl) (Nat.le_of_ble_eq_true rfl) ?_
      exact W.iret (v := (2 : Int32)) C.1 C.2.1 hr (fun t ht hW => ⟨⟨(2 : Int32), (ad, ρ1), rfl, ⟨hF0.trans (congrArg some (Prod.ext (Option.some.inj hF).symm hy)), kh_agr ad ρ⟩, kh_bk ht hw⟩, hS.F ht⟩) hS.2.2 dL_book_20
    have hF := kh_iff hF c1
    by_cases c2 : E = kh_E2
    · have hF := kh_ift hF c2
      refine vx_catch (E := kh_E2) (name := kh_E2) C.2.2.2.1 [⟨0, 10, 13, 21⟩, ⟨0, 10, 17, 13⟩] ⟨0, 10, 21, 15⟩ [] htb (List.forall_mem_cons.mpr ⟨Or.inr ⟨by decide, kh_E3, C.2.2.2.2.1 (.classLink RL 21 kh_E3) (by decide +kernel), hN.2.2⟩, (List.forall_mem_cons.mpr ⟨Or.inr ⟨by decide, kh_E1, C.2.2.2.2.1 (.classLink RL 13 kh_E1) (by decide +kernel), hN.1⟩, (fun z hz => absurd hz List.not_mem_nil)⟩)⟩) (by decide) (by decide) (C.2.2.2.2.1 (.classLink RL 15 kh_E2) (by decide +kernel)) (va_Nw.use rfl hT.2.2.2.2.1.2.1) g7 g8 (by rw [← c2]; exact g9) ?_
      refine lv_astore C.1 C.2.1 dL_book_21 hl.1 (by decide) rfl (fun ls h6 => ?_)
      refine lv_iconst (v := (3 : Int32)) C.1 C.2.1 dL_book_23 (by decide) ?_
      refine W.widen (k := 2) (n := 12) (Nat.le_of_ble_eq_true rfl) (Nat.le_of_ble_eq_true rfl) ?_
      exact W.iret (v := (3 : Int32)) C.1 C.2.1 hr (fun t ht hW => ⟨⟨(3 : Int32), (ad, ρ1), rfl, ⟨hF0.trans (congrArg some (Prod.ext (Option.some.inj hF).symm hy)), kh_agr ad ρ⟩, kh_bk ht hw⟩, hS.F ht⟩) hS.2.2 dL_book_24
    have hF := kh_iff hF c2
    exact absurd hF (fun z => nomatch z)
  refine kh_xcallN (vx_runV (As := [.int x1, .int x2]) (rest := [.int (0 : Int32), .ref (ad 60 0)]) ⟨C.1, C.2.1, C.2.2.1, C.2.2.2.1, C.2.2.2.2.1⟩ (c_X4_book l hlt D ca A ad ρ x1 x2 h9) (cwV 2 C.2.2.2.2.1 gL_book_X4_book rfl rfl rfl (by decide +kernel) ⟨Nat.le_of_ble_eq_true rfl, Nat.le_of_ble_eq_true rfl⟩) (kh_preVJ C hT hw hS 0 (kh_z0 ρ) kh_kd0 rfl) rfl rfl hl.1.1 rfl (lv_room (kh_sum (kh_ac rfl (kh_ac rfl kh_an)) (Nat.le_of_ble_eq_true rfl))) dL_book_5 ⟨Nat.le_of_ble_eq_true rfl, Nat.le_of_ble_eq_true rfl⟩) hS h9 (fun ad2 H locs hag hw hS => ?_)
  refine lv_i2l (v := r9.toInt64) C.1 C.2.1 dL_book_8 rfl ?_
  refine kh_last C hw hS 60 (x := r9) (congrArg Value.ref (hag 60 0 (kh_z60 ρ)).symm) (kh_z60 ρ1) (by decide) kh_kd60 (by decide) rfl dL_book_9 (fun H locs hw hS => ?_)
  refine lv_goto (tgt := 25) C.1 C.2.1 dL_book_10 (by decide) ?_
  refine lv_iconst (v := (0 : Int32)) C.1 C.2.1 dL_book_25 (by decide) ?_
  refine W.widen (k := 2) (n := 12) (Nat.le_of_ble_eq_true rfl) (Nat.le_of_ble_eq_true rfl) ?_
  exact W.iret (v := (0 : Int32)) C.1 C.2.1 hr (fun t ht hW => ⟨⟨(0 : Int32), (ad2, kh_up ρ1 60 0 0 (0 : Int32).toNatClampNeg r9), rfl, ⟨hF0.trans hF.symm, hag⟩, kh_bk ht hw⟩, hS.F ht⟩) hS.2.2 dL_book_26

def f_L_cancel (ρ : kh_S) (x1 : Int32) : Option (Int32 × kh_S) := kh_hx (f_X4_cancel ρ x1) (fun E => if E = kh_E3 then some (1 : Int32) else (if E = kh_E2 then some (2 : Int32) else none)) (fun r => some ((0 : Int32), r))
set_option maxHeartbeats 4000000 in
set_option maxRecDepth 100000 in
theorem c_L_cancel (l : Launch) (hlt : l.stackTraces = false) (D : va_G) (ca : Nat → ClassId) (A : Nat → Prop) (ad : Nat → Nat → Nat) (ρ : kh_S) (x1 : Int32) {q0 : Int32 × kh_S} (hF0 : f_L_cancel ρ x1 = some q0) : Met l yL_cancel wsL_cancel ({ frames := 8, cells := 2, slots := 12, locals := 133 } : Room) (va_Pc [.ref (ad 0 0), .int x1] (kh_JL D ca A ad ρ)) (kh_Qi D ca A ad (f_L_cancel ρ x1)) 2 12 A := by
  refine kh_ofWH (cc := cL_cancel) (maxL := 3) (ret := some .int) (hh := [(0, 5, 8, 21), (0, 5, 11, 15)]) (by decide) rfl ?_
  intro p e s m args below meth c s₁ B hml htb hv
  obtain ⟨rfl, ⟨⟨hK, hw, hA⟩, hT⟩, hN⟩ := hv
  have C : kh_C p s m ([.ref (ad 0 0), .int x1]).toArray c cL_cancel 3 RL wsL_cancel D ca A := ⟨B.exec, B.bytes, hml, findClass_of_methodNamed B.named, atoms_spec (ws := wsL_cancel) B.pre, hK, hA⟩
  have hr := B.returns
  have hlocks := B.notSynchronized
  have hS : va_S A s.heap s.heap [] := va_S.rf
  have hl := kh_entry ([.ref (ad 0 0), .int x1]) (n := 3) (kh_ac rfl (kh_ac rfl kh_an)) (Nat.le_of_ble_eq_true rfl)
  rw [lg_entry_eq]
  generalize (lg_sl ([.ref (ad 0 0), .int x1]) ++ List.replicate (3 - (lg_sl ([.ref (ad 0 0), .int x1])).length) Slot.unset).toArray = ls at hl ⊢
  have hl : kh_lv ls 3 [(0, .ref (ad 0 0)), (1, .int x1)] := hl
  have hF := hF0
  unfold f_L_cancel at hF
  refine lv_aload_n C.1 C.2.1 dL_cancel_0 rfl (kh_at hl 0 rfl) ?_
  refine lv_iload_n C.1 C.2.1 dL_cancel_1 rfl (kh_at hl 1 rfl) ?_
  rcases kh_hx_ok hF with ⟨E, ρ1, h9, hg, hy⟩ | ⟨ρ1, h9, hF⟩
  · refine kh_xcallX (vx_runV (As := [.int x1]) (rest := []) ⟨C.1, C.2.1, C.2.2.1, C.2.2.2.1, C.2.2.2.2.1⟩ (c_X4_cancel l hlt D ca A ad ρ x1 h9) (cwV 1 C.2.2.2.2.1 gL_cancel_X4_cancel rfl rfl rfl (by decide +kernel) ⟨Nat.le_of_ble_eq_true rfl, Nat.le_of_ble_eq_true rfl⟩) (kh_preVJ C hT hw hS 0 (kh_z0 ρ) kh_kd0 rfl) rfl rfl hl.1.1 rfl (lv_room (kh_sum kh_an (Nat.le_of_ble_eq_true rfl))) dL_cancel_2 ⟨Nat.le_of_ble_eq_true rfl, Nat.le_of_ble_eq_true rfl⟩) hS h9 (kh_notYv h9) (fun H locs ce q9 hw hS g7 g8 g9 => ?_)
    have hF : (if E = kh_E3 then some (1 : Int32) else (if E = kh_E2 then some (2 : Int32) else none)) = some q0.1 := hg
    by_cases c0 : E = kh_E3
    · have hF := kh_ift hF c0
      refine vx_catch (E := kh_E3) (name := kh_E3) C.2.2.2.1 [] ⟨0, 5, 8, 21⟩ [⟨0, 5, 11, 15⟩] htb (fun z hz => absurd hz List.not_mem_nil) (by decide) (by decide) (C.2.2.2.2.1 (.classLink RL 21 kh_E3) (by decide +kernel)) (va_Nw.use rfl hT.2.2.2.2.2.2.1) g7 g8 (by rw [← c0]; exact g9) ?_
      refine lv_astore_n C.1 C.2.1 dL_cancel_8 rfl hl.1 (by decide) rfl (fun ls h6 => ?_)
      refine lv_iconst (v := (1 : Int32)) C.1 C.2.1 dL_cancel_9 (by decide) ?_
      refine W.widen (k := 2) (n := 12) (Nat.le_of_ble_eq_true rfl) (Nat.le_of_ble_eq_true rfl) ?_
      exact W.iret (v := (1 : Int32)) C.1 C.2.1 hr (fun t ht hW => ⟨⟨(1 : Int32), ρ1, rfl, hF0.trans (congrArg some (Prod.ext (Option.some.inj hF).symm hy)), kh_bk ht hw⟩, hS.F ht⟩) hS.2.2 dL_cancel_10
    have hF := kh_iff hF c0
    by_cases c1 : E = kh_E2
    · have hF := kh_ift hF c1
      refine vx_catch (E := kh_E2) (name := kh_E2) C.2.2.2.1 [⟨0, 5, 8, 21⟩] ⟨0, 5, 11, 15⟩ [] htb (List.forall_mem_cons.mpr ⟨Or.inr ⟨by decide, kh_E3, C.2.2.2.2.1 (.classLink RL 21 kh_E3) (by decide +kernel), hN.2.2⟩, (fun z hz => absurd hz List.not_mem_nil)⟩) (by decide) (by decide) (C.2.2.2.2.1 (.classLink RL 15 kh_E2) (by decide +kernel)) (va_Nw.use rfl hT.2.2.2.2.1.2.1) g7 g8 (by rw [← c1]; exact g9) ?_
      refine lv_astore_n C.1 C.2.1 dL_cancel_11 rfl hl.1 (by decide) rfl (fun ls h6 => ?_)
      refine lv_iconst (v := (2 : Int32)) C.1 C.2.1 dL_cancel_12 (by decide) ?_
      refine W.widen (k := 2) (n := 12) (Nat.le_of_ble_eq_true rfl) (Nat.le_of_ble_eq_true rfl) ?_
      exact W.iret (v := (2 : Int32)) C.1 C.2.1 hr (fun t ht hW => ⟨⟨(2 : Int32), ρ1, rfl, hF0.trans (congrArg some (Prod.ext (Option.some.inj hF).symm hy)), kh_bk ht hw⟩, hS.F ht⟩) hS.2.2 dL_cancel_13
    have hF := kh_iff hF c1
    exact absurd hF (fun z => nomatch z)
  refine kh_xcallv (vx_runV (As := [.int x1]) (rest := []) ⟨C.1, C.2.1, C.2.2.1, C.2.2.2.1, C.2.2.2.2.1⟩ (c_X4_cancel l hlt D ca A ad ρ x1 h9) (cwV 1 C.2.2.2.2.1 gL_cancel_X4_cancel rfl rfl rfl (by decide +kernel) ⟨Nat.le_of_ble_eq_true rfl, Nat.le_of_ble_eq_true rfl⟩) (kh_preVJ C hT hw hS 0 (kh_z0 ρ) kh_kd0 rfl) rfl rfl hl.1.1 rfl (lv_room (kh_sum kh_an (Nat.le_of_ble_eq_true rfl))) dL_cancel_2 ⟨Nat.le_of_ble_eq_true rfl, Nat.le_of_ble_eq_true rfl⟩) hS h9 (fun H locs hw hS => ?_)
  refine lv_goto (tgt := 14) C.1 C.2.1 dL_cancel_5 (by decide) ?_
  refine lv_iconst (v := (0 : Int32)) C.1 C.2.1 dL_cancel_14 (by decide) ?_
  refine W.widen (k := 2) (n := 12) (Nat.le_of_ble_eq_true rfl) (Nat.le_of_ble_eq_true rfl) ?_
  exact W.iret (v := (0 : Int32)) C.1 C.2.1 hr (fun t ht hW => ⟨⟨(0 : Int32), ρ1, rfl, hF0.trans hF.symm, kh_bk ht hw⟩, hS.F ht⟩) hS.2.2 dL_cancel_15

def f_L_offer (ρ : kh_S) (x1 : Int32) (x2 : Int32) : Option (Int32 × kh_S) := kh_hx (kh_pt (f_X4_offer ρ x1 x2) ρ) (fun E => if E = kh_E3 then some (1 : Int32) else (if E = kh_E1 then some (2 : Int32) else none)) (fun r => some ((0 : Int32), kh_up r.2 60 0 0 (0 : Int32).toNatClampNeg r.1))
set_option maxHeartbeats 4000000 in
set_option maxRecDepth 100000 in
theorem c_L_offer (l : Launch) (hlt : l.stackTraces = false) (D : va_G) (ca : Nat → ClassId) (A : Nat → Prop) (ad : Nat → Nat → Nat) (ρ : kh_S) (x1 : Int32) (x2 : Int32) {q0 : Int32 × kh_S} (hF0 : f_L_offer ρ x1 x2 = some q0) : Met l yL_offer wsL_offer ({ frames := 8, cells := 2, slots := 12, locals := 135 } : Room) (va_Pc [.ref (ad 0 0), .int x1, .int x2, .ref (ad 60 0)] (kh_JL D ca A ad ρ)) (kh_Qi D ca A ad (f_L_offer ρ x1 x2)) 2 12 A := by
  refine kh_ofWH (cc := cL_offer) (maxL := 5) (ret := some .int) (hh := [(0, 10, 13, 21), (0, 10, 17, 13)]) (by decide) rfl ?_
  intro p e s m args below meth c s₁ B hml htb hv
  obtain ⟨rfl, ⟨⟨hK, hw, hA⟩, hT⟩, hN⟩ := hv
  have C : kh_C p s m ([.ref (ad 0 0), .int x1, .int x2, .ref (ad 60 0)]).toArray c cL_offer 5 RL wsL_offer D ca A := ⟨B.exec, B.bytes, hml, findClass_of_methodNamed B.named, atoms_spec (ws := wsL_offer) B.pre, hK, hA⟩
  have hr := B.returns
  have hlocks := B.notSynchronized
  have hS : va_S A s.heap s.heap [] := va_S.rf
  have hl := kh_entry ([.ref (ad 0 0), .int x1, .int x2, .ref (ad 60 0)]) (n := 5) (kh_ac rfl (kh_ac rfl (kh_ac rfl (kh_ac rfl kh_an)))) (Nat.le_of_ble_eq_true rfl)
  rw [lg_entry_eq]
  generalize (lg_sl ([.ref (ad 0 0), .int x1, .int x2, .ref (ad 60 0)]) ++ List.replicate (5 - (lg_sl ([.ref (ad 0 0), .int x1, .int x2, .ref (ad 60 0)])).length) Slot.unset).toArray = ls at hl ⊢
  have hl : kh_lv ls 5 [(0, .ref (ad 0 0)), (1, .int x1), (2, .int x2), (3, .ref (ad 60 0))] := hl
  have hF := hF0
  unfold f_L_offer at hF
  refine lv_aload_n C.1 C.2.1 dL_offer_0 rfl (kh_at hl 3 rfl) ?_
  refine lv_iconst (v := (0 : Int32)) C.1 C.2.1 dL_offer_1 (by decide) ?_
  refine lv_aload_n C.1 C.2.1 dL_offer_2 rfl (kh_at hl 0 rfl) ?_
  refine lv_iload_n C.1 C.2.1 dL_offer_3 rfl (kh_at hl 1 rfl) ?_
  refine lv_iload_n C.1 C.2.1 dL_offer_4 rfl (kh_at hl 2 rfl) ?_
  rcases kh_hx_ok hF with ⟨E, ρ1, h9, hg, hy⟩ | ⟨⟨r9, ρ1⟩, h9, hF⟩
  · obtain ⟨q8, h8⟩ := kh_ptS h9
    refine kh_xcallX (vx_runV (As := [.int x1, .int x2]) (rest := [.int (0 : Int32), .ref (ad 60 0)]) ⟨C.1, C.2.1, C.2.2.1, C.2.2.2.1, C.2.2.2.2.1⟩ (c_X4_offer l hlt D ca A ad ρ x1 x2 h8) (cwV 2 C.2.2.2.2.1 gL_offer_X4_offer rfl rfl rfl (by decide +kernel) ⟨Nat.le_of_ble_eq_true rfl, Nat.le_of_ble_eq_true rfl⟩) (kh_preVJ C hT hw hS 0 (kh_z0 ρ) kh_kd0 rfl) rfl rfl hl.1.1 rfl (lv_room (kh_sum (kh_ac rfl (kh_ac rfl kh_an)) (Nat.le_of_ble_eq_true rfl))) dL_offer_5 ⟨Nat.le_of_ble_eq_true rfl, Nat.le_of_ble_eq_true rfl⟩) hS h9 (kh_notYi h9) (fun H locs ce q9 hw hS g7 g8 g9 => ?_)
    have hF : (if E = kh_E3 then some (1 : Int32) else (if E = kh_E1 then some (2 : Int32) else none)) = some q0.1 := hg
    by_cases c0 : E = kh_E3
    · have hF := kh_ift hF c0
      refine vx_catch (E := kh_E3) (name := kh_E3) C.2.2.2.1 [] ⟨0, 10, 13, 21⟩ [⟨0, 10, 17, 13⟩] htb (fun z hz => absurd hz List.not_mem_nil) (by decide) (by decide) (C.2.2.2.2.1 (.classLink RL 21 kh_E3) (by decide +kernel)) (va_Nw.use rfl hT.2.2.2.2.2.2.1) g7 g8 (by rw [← c0]; exact g9) ?_
      refine lv_astore C.1 C.2.1 dL_offer_13 hl.1 (by decide) rfl (fun ls h6 => ?_)
      refine lv_iconst (v := (1 : Int32)) C.1 C.2.1 dL_offer_15 (by decide) ?_
      refine W.widen (k := 2) (n := 12) (Nat.le_of_ble_eq_true rfl) (Nat.le_of_ble_eq_true rfl) ?_
      exact W.iret (v := (1 : Int32)) C.1 C.2.1 hr (fun t ht hW => ⟨⟨(1 : Int32), ρ1, rfl, hF0.trans (congrArg some (Prod.ext (Option.some.inj hF).symm hy)), kh_bk ht hw⟩, hS.F ht⟩) hS.2.2 dL_offer_16
    have hF := kh_iff hF c0
    by_cases c1 : E = kh_E1
    · have hF := kh_ift hF c1
      refine vx_catch (E := kh_E1) (name := kh_E1) C.2.2.2.1 [⟨0, 10, 13, 21⟩] ⟨0, 10, 17, 13⟩ [] htb (List.forall_mem_cons.mpr ⟨Or.inr ⟨by decide, kh_E3, C.2.2.2.2.1 (.classLink RL 21 kh_E3) (by decide +kernel), hN.2.1⟩, (fun z hz => absurd hz List.not_mem_nil)⟩) (by decide) (by decide) (C.2.2.2.2.1 (.classLink RL 13 kh_E1) (by decide +kernel)) (va_Nw.use rfl hT.2.2.2.1.2.1) g7 g8 (by rw [← c1]; exact g9) ?_
      refine lv_astore C.1 C.2.1 dL_offer_17 hl.1 (by decide) rfl (fun ls h6 => ?_)
      refine lv_iconst (v := (2 : Int32)) C.1 C.2.1 dL_offer_19 (by decide) ?_
      refine W.widen (k := 2) (n := 12) (Nat.le_of_ble_eq_true rfl) (Nat.le_of_ble_eq_true rfl) ?_
      exact W.iret (v := (2 : Int32)) C.1 C.2.1 hr (fun t ht hW => ⟨⟨(2 : Int32), ρ1, rfl, hF0.trans (congrArg some (Prod.ext (Option.some.inj hF).symm hy)), kh_bk ht hw⟩, hS.F ht⟩) hS.2.2 dL_offer_20
    have hF := kh_iff hF c1
    exact absurd hF (fun z => nomatch z)
  obtain ⟨q8, h8⟩ := kh_ptS h9
  refine kh_xcalli (vx_runV (As := [.int x1, .int x2]) (rest := [.int (0 : Int32), .ref (ad 60 0)]) ⟨C.1, C.2.1, C.2.2.1, C.2.2.2.1, C.2.2.2.2.1⟩ (c_X4_offer l hlt D ca A ad ρ x1 x2 h8) (cwV 2 C.2.2.2.2.1 gL_offer_X4_offer rfl rfl rfl (by decide +kernel) ⟨Nat.le_of_ble_eq_true rfl, Nat.le_of_ble_eq_true rfl⟩) (kh_preVJ C hT hw hS 0 (kh_z0 ρ) kh_kd0 rfl) rfl rfl hl.1.1 rfl (lv_room (kh_sum (kh_ac rfl (kh_ac rfl kh_an)) (Nat.le_of_ble_eq_true rfl))) dL_offer_5 ⟨Nat.le_of_ble_eq_true rfl, Nat.le_of_ble_eq_true rfl⟩) hS h9 (fun H locs hw hS => ?_)
  refine lv_i2l (v := r9.toInt64) C.1 C.2.1 dL_offer_8 rfl ?_
  refine kh_last C hw hS 60 (x := r9) rfl (kh_z60 ρ1) (by decide) kh_kd60 (by decide) rfl dL_offer_9 (fun H locs hw hS => ?_)
  refine lv_goto (tgt := 21) C.1 C.2.1 dL_offer_10 (by decide) ?_
  refine lv_iconst (v := (0 : Int32)) C.1 C.2.1 dL_offer_21 (by decide) ?_
  refine W.widen (k := 2) (n := 12) (Nat.le_of_ble_eq_true rfl) (Nat.le_of_ble_eq_true rfl) ?_
  exact W.iret (v := (0 : Int32)) C.1 C.2.1 hr (fun t ht hW => ⟨⟨(0 : Int32), kh_up ρ1 60 0 0 (0 : Int32).toNatClampNeg r9, rfl, hF0.trans hF.symm, kh_bk ht hw⟩, hS.F ht⟩) hS.2.2 dL_offer_22

def f_L_pass (ρ : kh_S) (x1 : Int32) : Option (Int32 × kh_S) := kh_hx (f_X4_pass ρ x1) (fun E => if E = kh_E1 then some (1 : Int32) else (if E = kh_E2 then some (2 : Int32) else none)) (fun r => some ((0 : Int32), kh_up r.2 60 0 0 (0 : Int32).toNatClampNeg r.1))
set_option maxHeartbeats 4000000 in
set_option maxRecDepth 100000 in
theorem c_L_pass (l : Launch) (hlt : l.stackTraces = false) (D : va_G) (ca : Nat → ClassId) (A : Nat → Prop) (ad : Nat → Nat → Nat) (ρ : kh_S) (x1 : Int32) {q0 : Int32 × kh_S} (hF0 : f_L_pass ρ x1 = some q0) : Met l yL_pass wsL_pass ({ frames := 7, cells := 1, slots := 6, locals := 154 } : Room) (va_Pc [.ref (ad 0 0), .int x1, .ref (ad 60 0)] (kh_JL D ca A ad ρ)) (kh_Qi D ca A ad (f_L_pass ρ x1)) 1 6 A := by
  refine kh_ofWH (cc := cL_pass) (maxL := 4) (ret := some .int) (hh := [(0, 9, 12, 13), (0, 9, 15, 15)]) (by decide) rfl ?_
  intro p e s m args below meth c s₁ B hml htb hv
  obtain ⟨rfl, ⟨⟨hK, hw, hA⟩, hT⟩, hN⟩ := hv
  have C : kh_C p s m ([.ref (ad 0 0), .int x1, .ref (ad 60 0)]).toArray c cL_pass 4 RL wsL_pass D ca A := ⟨B.exec, B.bytes, hml, findClass_of_methodNamed B.named, atoms_spec (ws := wsL_pass) B.pre, hK, hA⟩
  have hr := B.returns
  have hlocks := B.notSynchronized
  have hS : va_S A s.heap s.heap [] := va_S.rf
  have hl := kh_entry ([.ref (ad 0 0), .int x1, .ref (ad 60 0)]) (n := 4) (kh_ac rfl (kh_ac rfl (kh_ac rfl kh_an))) (Nat.le_of_ble_eq_true rfl)
  rw [lg_entry_eq]
  generalize (lg_sl ([.ref (ad 0 0), .int x1, .ref (ad 60 0)]) ++ List.replicate (4 - (lg_sl ([.ref (ad 0 0), .int x1, .ref (ad 60 0)])).length) Slot.unset).toArray = ls at hl ⊢
  have hl : kh_lv ls 4 [(0, .ref (ad 0 0)), (1, .int x1), (2, .ref (ad 60 0))] := hl
  have hF := hF0
  unfold f_L_pass at hF
  refine lv_aload_n C.1 C.2.1 dL_pass_0 rfl (kh_at hl 2 rfl) ?_
  refine lv_iconst (v := (0 : Int32)) C.1 C.2.1 dL_pass_1 (by decide) ?_
  refine lv_aload_n C.1 C.2.1 dL_pass_2 rfl (kh_at hl 0 rfl) ?_
  refine lv_iload_n C.1 C.2.1 dL_pass_3 rfl (kh_at hl 1 rfl) ?_
  rcases kh_hx_ok hF with ⟨E, ρ1, h9, hg, hy⟩ | ⟨⟨r9, ρ1⟩, h9, hF⟩
  · refine kh_xcallX (vx_runV (As := [.int x1]) (rest := [.int (0 : Int32), .ref (ad 60 0)]) ⟨C.1, C.2.1, C.2.2.1, C.2.2.2.1, C.2.2.2.2.1⟩ (c_X4_pass l hlt D ca A ad ρ x1 h9) (cwV 1 C.2.2.2.2.1 gL_pass_X4_pass rfl rfl rfl (by decide +kernel) ⟨Nat.le_of_ble_eq_true rfl, Nat.le_of_ble_eq_true rfl⟩) (kh_preVJ C hT hw hS 0 (kh_z0 ρ) kh_kd0 rfl) rfl rfl hl.1.1 rfl (lv_room (kh_sum (kh_ac rfl (kh_ac rfl kh_an)) (Nat.le_of_ble_eq_true rfl))) dL_pass_4 ⟨Nat.le_of_ble_eq_true rfl, Nat.le_of_ble_eq_true rfl⟩) hS h9 (kh_notYi h9) (fun H locs ce q9 hw hS g7 g8 g9 => ?_)
    have hF : (if E = kh_E1 then some (1 : Int32) else (if E = kh_E2 then some (2 : Int32) else none)) = some q0.1 := hg
    by_cases c0 : E = kh_E1
    · have hF := kh_ift hF c0
      refine vx_catch (E := kh_E1) (name := kh_E1) C.2.2.2.1 [] ⟨0, 9, 12, 13⟩ [⟨0, 9, 15, 15⟩] htb (fun z hz => absurd hz List.not_mem_nil) (by decide) (by decide) (C.2.2.2.2.1 (.classLink RL 13 kh_E1) (by decide +kernel)) (va_Nw.use rfl hT.2.2.2.1.2.1) g7 g8 (by rw [← c0]; exact g9) ?_
      refine lv_astore_n C.1 C.2.1 dL_pass_12 rfl hl.1 (by decide) rfl (fun ls h6 => ?_)
      refine lv_iconst (v := (1 : Int32)) C.1 C.2.1 dL_pass_13 (by decide) ?_
      refine W.widen (k := 1) (n := 6) (Nat.le_of_ble_eq_true rfl) (Nat.le_of_ble_eq_true rfl) ?_
      exact W.iret (v := (1 : Int32)) C.1 C.2.1 hr (fun t ht hW => ⟨⟨(1 : Int32), ρ1, rfl, hF0.trans (congrArg some (Prod.ext (Option.some.inj hF).symm hy)), kh_bk ht hw⟩, hS.F ht⟩) hS.2.2 dL_pass_14
    have hF := kh_iff hF c0
    by_cases c1 : E = kh_E2
    · have hF := kh_ift hF c1
      refine vx_catch (E := kh_E2) (name := kh_E2) C.2.2.2.1 [⟨0, 9, 12, 13⟩] ⟨0, 9, 15, 15⟩ [] htb (List.forall_mem_cons.mpr ⟨Or.inr ⟨by decide, kh_E1, C.2.2.2.2.1 (.classLink RL 13 kh_E1) (by decide +kernel), hN.1⟩, (fun z hz => absurd hz List.not_mem_nil)⟩) (by decide) (by decide) (C.2.2.2.2.1 (.classLink RL 15 kh_E2) (by decide +kernel)) (va_Nw.use rfl hT.2.2.2.2.1.2.1) g7 g8 (by rw [← c1]; exact g9) ?_
      refine lv_astore_n C.1 C.2.1 dL_pass_15 rfl hl.1 (by decide) rfl (fun ls h6 => ?_)
      refine lv_iconst (v := (2 : Int32)) C.1 C.2.1 dL_pass_16 (by decide) ?_
      refine W.widen (k := 1) (n := 6) (Nat.le_of_ble_eq_true rfl) (Nat.le_of_ble_eq_true rfl) ?_
      exact W.iret (v := (2 : Int32)) C.1 C.2.1 hr (fun t ht hW => ⟨⟨(2 : Int32), ρ1, rfl, hF0.trans (congrArg some (Prod.ext (Option.some.inj hF).symm hy)), kh_bk ht hw⟩, hS.F ht⟩) hS.2.2 dL_pass_17
    have hF := kh_iff hF c1
    exact absurd hF (fun z => nomatch z)
  refine kh_xcalli (vx_runV (As := [.int x1]) (rest := [.int (0 : Int32), .ref (ad 60 0)]) ⟨C.1, C.2.1, C.2.2.1, C.2.2.2.1, C.2.2.2.2.1⟩ (c_X4_pass l hlt D ca A ad ρ x1 h9) (cwV 1 C.2.2.2.2.1 gL_pass_X4_pass rfl rfl rfl (by decide +kernel) ⟨Nat.le_of_ble_eq_true rfl, Nat.le_of_ble_eq_true rfl⟩) (kh_preVJ C hT hw hS 0 (kh_z0 ρ) kh_kd0 rfl) rfl rfl hl.1.1 rfl (lv_room (kh_sum (kh_ac rfl (kh_ac rfl kh_an)) (Nat.le_of_ble_eq_true rfl))) dL_pass_4 ⟨Nat.le_of_ble_eq_true rfl, Nat.le_of_ble_eq_true rfl⟩) hS h9 (fun H locs hw hS => ?_)
  refine lv_i2l (v := r9.toInt64) C.1 C.2.1 dL_pass_7 rfl ?_
  refine kh_last C hw hS 60 (x := r9) rfl (kh_z60 ρ1) (by decide) kh_kd60 (by decide) rfl dL_pass_8 (fun H locs hw hS => ?_)
  refine lv_goto (tgt := 18) C.1 C.2.1 dL_pass_9 (by decide) ?_
  refine lv_iconst (v := (0 : Int32)) C.1 C.2.1 dL_pass_18 (by decide) ?_
  refine W.widen (k := 1) (n := 6) (Nat.le_of_ble_eq_true rfl) (Nat.le_of_ble_eq_true rfl) ?_
  exact W.iret (v := (0 : Int32)) C.1 C.2.1 hr (fun t ht hW => ⟨⟨(0 : Int32), kh_up ρ1 60 0 0 (0 : Int32).toNatClampNeg r9, rfl, hF0.trans hF.symm, kh_bk ht hw⟩, hS.F ht⟩) hS.2.2 dL_pass_19

def f_L_state (ρ : kh_S) (x1 : Int32) (x2 : Int32) : Option (Int32 × kh_S) := kh_hx (kh_pt (f_X4_state ρ x1 x2) ρ) (fun E => if E = kh_E3 then some (1 : Int32) else (if E = kh_E1 then some (2 : Int32) else none)) (fun r => some ((0 : Int32), kh_up r.2 60 0 0 (0 : Int32).toNatClampNeg r.1))
set_option maxHeartbeats 4000000 in
set_option maxRecDepth 100000 in
theorem c_L_state (l : Launch) (hlt : l.stackTraces = false) (D : va_G) (ca : Nat → ClassId) (A : Nat → Prop) (ad : Nat → Nat → Nat) (ρ : kh_S) (x1 : Int32) (x2 : Int32) {q0 : Int32 × kh_S} (hF0 : f_L_state ρ x1 x2 = some q0) : Met l yL_state wsL_state ({ frames := 8, cells := 2, slots := 12, locals := 134 } : Room) (va_Pc [.ref (ad 0 0), .int x1, .int x2, .ref (ad 60 0)] (kh_JL D ca A ad ρ)) (kh_Qi D ca A ad (f_L_state ρ x1 x2)) 2 12 A := by
  refine kh_ofWH (cc := cL_state) (maxL := 5) (ret := some .int) (hh := [(0, 10, 13, 21), (0, 10, 17, 13)]) (by decide) rfl ?_
  intro p e s m args below meth c s₁ B hml htb hv
  obtain ⟨rfl, ⟨⟨hK, hw, hA⟩, hT⟩, hN⟩ := hv
  have C : kh_C p s m ([.ref (ad 0 0), .int x1, .int x2, .ref (ad 60 0)]).toArray c cL_state 5 RL wsL_state D ca A := ⟨B.exec, B.bytes, hml, findClass_of_methodNamed B.named, atoms_spec (ws := wsL_state) B.pre, hK, hA⟩
  have hr := B.returns
  have hlocks := B.notSynchronized
  have hS : va_S A s.heap s.heap [] := va_S.rf
  have hl := kh_entry ([.ref (ad 0 0), .int x1, .int x2, .ref (ad 60 0)]) (n := 5) (kh_ac rfl (kh_ac rfl (kh_ac rfl (kh_ac rfl kh_an)))) (Nat.le_of_ble_eq_true rfl)
  rw [lg_entry_eq]
  generalize (lg_sl ([.ref (ad 0 0), .int x1, .int x2, .ref (ad 60 0)]) ++ List.replicate (5 - (lg_sl ([.ref (ad 0 0), .int x1, .int x2, .ref (ad 60 0)])).length) Slot.unset).toArray = ls at hl ⊢
  have hl : kh_lv ls 5 [(0, .ref (ad 0 0)), (1, .int x1), (2, .int x2), (3, .ref (ad 60 0))] := hl
  have hF := hF0
  unfold f_L_state at hF
  refine lv_aload_n C.1 C.2.1 dL_state_0 rfl (kh_at hl 3 rfl) ?_
  refine lv_iconst (v := (0 : Int32)) C.1 C.2.1 dL_state_1 (by decide) ?_
  refine lv_aload_n C.1 C.2.1 dL_state_2 rfl (kh_at hl 0 rfl) ?_
  refine lv_iload_n C.1 C.2.1 dL_state_3 rfl (kh_at hl 1 rfl) ?_
  refine lv_iload_n C.1 C.2.1 dL_state_4 rfl (kh_at hl 2 rfl) ?_
  rcases kh_hx_ok hF with ⟨E, ρ1, h9, hg, hy⟩ | ⟨⟨r9, ρ1⟩, h9, hF⟩
  · obtain ⟨q8, h8⟩ := kh_ptS h9
    refine kh_xcallX (vx_runV (As := [.int x1, .int x2]) (rest := [.int (0 : Int32), .ref (ad 60 0)]) ⟨C.1, C.2.1, C.2.2.1, C.2.2.2.1, C.2.2.2.2.1⟩ (c_X4_state l hlt D ca A ad ρ x1 x2 h8) (cwV 2 C.2.2.2.2.1 gL_state_X4_state rfl rfl rfl (by decide +kernel) ⟨Nat.le_of_ble_eq_true rfl, Nat.le_of_ble_eq_true rfl⟩) (kh_preVJ C hT hw hS 0 (kh_z0 ρ) kh_kd0 rfl) rfl rfl hl.1.1 rfl (lv_room (kh_sum (kh_ac rfl (kh_ac rfl kh_an)) (Nat.le_of_ble_eq_true rfl))) dL_state_5 ⟨Nat.le_of_ble_eq_true rfl, Nat.le_of_ble_eq_true rfl⟩) hS h9 (kh_notYi h9) (fun H locs ce q9 hw hS g7 g8 g9 => ?_)
    have hF : (if E = kh_E3 then some (1 : Int32) else (if E = kh_E1 then some (2 : Int32) else none)) = some q0.1 := hg
    by_cases c0 : E = kh_E3
    · have hF := kh_ift hF c0
      refine vx_catch (E := kh_E3) (name := kh_E3) C.2.2.2.1 [] ⟨0, 10, 13, 21⟩ [⟨0, 10, 17, 13⟩] htb (fun z hz => absurd hz List.not_mem_nil) (by decide) (by decide) (C.2.2.2.2.1 (.classLink RL 21 kh_E3) (by decide +kernel)) (va_Nw.use rfl hT.2.2.2.2.2.2.1) g7 g8 (by rw [← c0]; exact g9) ?_
      refine lv_astore C.1 C.2.1 dL_state_13 hl.1 (by decide) rfl (fun ls h6 => ?_)
      refine lv_iconst (v := (1 : Int32)) C.1 C.2.1 dL_state_15 (by decide) ?_
      refine W.widen (k := 2) (n := 12) (Nat.le_of_ble_eq_true rfl) (Nat.le_of_ble_eq_true rfl) ?_
      exact W.iret (v := (1 : Int32)) C.1 C.2.1 hr (fun t ht hW => ⟨⟨(1 : Int32), ρ1, rfl, hF0.trans (congrArg some (Prod.ext (Option.some.inj hF).symm hy)), kh_bk ht hw⟩, hS.F ht⟩) hS.2.2 dL_state_16
    have hF := kh_iff hF c0
    by_cases c1 : E = kh_E1
    · have hF := kh_ift hF c1
      refine vx_catch (E := kh_E1) (name := kh_E1) C.2.2.2.1 [⟨0, 10, 13, 21⟩] ⟨0, 10, 17, 13⟩ [] htb (List.forall_mem_cons.mpr ⟨Or.inr ⟨by decide, kh_E3, C.2.2.2.2.1 (.classLink RL 21 kh_E3) (by decide +kernel), hN.2.1⟩, (fun z hz => absurd hz List.not_mem_nil)⟩) (by decide) (by decide) (C.2.2.2.2.1 (.classLink RL 13 kh_E1) (by decide +kernel)) (va_Nw.use rfl hT.2.2.2.1.2.1) g7 g8 (by rw [← c1]; exact g9) ?_
      refine lv_astore C.1 C.2.1 dL_state_17 hl.1 (by decide) rfl (fun ls h6 => ?_)
      refine lv_iconst (v := (2 : Int32)) C.1 C.2.1 dL_state_19 (by decide) ?_
      refine W.widen (k := 2) (n := 12) (Nat.le_of_ble_eq_true rfl) (Nat.le_of_ble_eq_true rfl) ?_
      exact W.iret (v := (2 : Int32)) C.1 C.2.1 hr (fun t ht hW => ⟨⟨(2 : Int32), ρ1, rfl, hF0.trans (congrArg some (Prod.ext (Option.some.inj hF).symm hy)), kh_bk ht hw⟩, hS.F ht⟩) hS.2.2 dL_state_20
    have hF := kh_iff hF c1
    exact absurd hF (fun z => nomatch z)
  obtain ⟨q8, h8⟩ := kh_ptS h9
  refine kh_xcalli (vx_runV (As := [.int x1, .int x2]) (rest := [.int (0 : Int32), .ref (ad 60 0)]) ⟨C.1, C.2.1, C.2.2.1, C.2.2.2.1, C.2.2.2.2.1⟩ (c_X4_state l hlt D ca A ad ρ x1 x2 h8) (cwV 2 C.2.2.2.2.1 gL_state_X4_state rfl rfl rfl (by decide +kernel) ⟨Nat.le_of_ble_eq_true rfl, Nat.le_of_ble_eq_true rfl⟩) (kh_preVJ C hT hw hS 0 (kh_z0 ρ) kh_kd0 rfl) rfl rfl hl.1.1 rfl (lv_room (kh_sum (kh_ac rfl (kh_ac rfl kh_an)) (Nat.le_of_ble_eq_true rfl))) dL_state_5 ⟨Nat.le_of_ble_eq_true rfl, Nat.le_of_ble_eq_true rfl⟩) hS h9 (fun H locs hw hS => ?_)
  refine lv_i2l (v := r9.toInt64) C.1 C.2.1 dL_state_8 rfl ?_
  refine kh_last C hw hS 60 (x := r9) rfl (kh_z60 ρ1) (by decide) kh_kd60 (by decide) rfl dL_state_9 (fun H locs hw hS => ?_)
  refine lv_goto (tgt := 21) C.1 C.2.1 dL_state_10 (by decide) ?_
  refine lv_iconst (v := (0 : Int32)) C.1 C.2.1 dL_state_21 (by decide) ?_
  refine W.widen (k := 2) (n := 12) (Nat.le_of_ble_eq_true rfl) (Nat.le_of_ble_eq_true rfl) ?_
  exact W.iret (v := (0 : Int32)) C.1 C.2.1 hr (fun t ht hW => ⟨⟨(0 : Int32), kh_up ρ1 60 0 0 (0 : Int32).toNatClampNeg r9, rfl, hF0.trans hF.symm, kh_bk ht hw⟩, hS.F ht⟩) hS.2.2 dL_state_22

def f_L_group (ρ : kh_S) (x1 : Int32) (x2 : Int32) : Option (Int32 × kh_S) := kh_hx (kh_pt (f_X4_group ρ x1 x2) ρ) (fun E => if E = kh_E3 then some (1 : Int32) else (if E = kh_E1 then some (2 : Int32) else none)) (fun r => some ((0 : Int32), kh_up r.2 60 0 0 (0 : Int32).toNatClampNeg r.1))
set_option maxHeartbeats 4000000 in
set_option maxRecDepth 100000 in
theorem c_L_group (l : Launch) (hlt : l.stackTraces = false) (D : va_G) (ca : Nat → ClassId) (A : Nat → Prop) (ad : Nat → Nat → Nat) (ρ : kh_S) (x1 : Int32) (x2 : Int32) {q0 : Int32 × kh_S} (hF0 : f_L_group ρ x1 x2 = some q0) : Met l yL_group wsL_group ({ frames := 8, cells := 2, slots := 12, locals := 134 } : Room) (va_Pc [.ref (ad 0 0), .int x1, .int x2, .ref (ad 60 0)] (kh_JL D ca A ad ρ)) (kh_Qi D ca A ad (f_L_group ρ x1 x2)) 2 12 A := by
  refine kh_ofWH (cc := cL_group) (maxL := 5) (ret := some .int) (hh := [(0, 10, 13, 21), (0, 10, 17, 13)]) (by decide) rfl ?_
  intro p e s m args below meth c s₁ B hml htb hv
  obtain ⟨rfl, ⟨⟨hK, hw, hA⟩, hT⟩, hN⟩ := hv
  have C : kh_C p s m ([.ref (ad 0 0), .int x1, .int x2, .ref (ad 60 0)]).toArray c cL_group 5 RL wsL_group D ca A := ⟨B.exec, B.bytes, hml, findClass_of_methodNamed B.named, atoms_spec (ws := wsL_group) B.pre, hK, hA⟩
  have hr := B.returns
  have hlocks := B.notSynchronized
  have hS : va_S A s.heap s.heap [] := va_S.rf
  have hl := kh_entry ([.ref (ad 0 0), .int x1, .int x2, .ref (ad 60 0)]) (n := 5) (kh_ac rfl (kh_ac rfl (kh_ac rfl (kh_ac rfl kh_an)))) (Nat.le_of_ble_eq_true rfl)
  rw [lg_entry_eq]
  generalize (lg_sl ([.ref (ad 0 0), .int x1, .int x2, .ref (ad 60 0)]) ++ List.replicate (5 - (lg_sl ([.ref (ad 0 0), .int x1, .int x2, .ref (ad 60 0)])).length) Slot.unset).toArray = ls at hl ⊢
  have hl : kh_lv ls 5 [(0, .ref (ad 0 0)), (1, .int x1), (2, .int x2), (3, .ref (ad 60 0))] := hl
  have hF := hF0
  unfold f_L_group at hF
  refine lv_aload_n C.1 C.2.1 dL_group_0 rfl (kh_at hl 3 rfl) ?_
  refine lv_iconst (v := (0 : Int32)) C.1 C.2.1 dL_group_1 (by decide) ?_
  refine lv_aload_n C.1 C.2.1 dL_group_2 rfl (kh_at hl 0 rfl) ?_
  refine lv_iload_n C.1 C.2.1 dL_group_3 rfl (kh_at hl 1 rfl) ?_
  refine lv_iload_n C.1 C.2.1 dL_group_4 rfl (kh_at hl 2 rfl) ?_
  rcases kh_hx_ok hF with ⟨E, ρ1, h9, hg, hy⟩ | ⟨⟨r9, ρ1⟩, h9, hF⟩
  · obtain ⟨q8, h8⟩ := kh_ptS h9
    refine kh_xcallX (vx_runV (As := [.int x1, .int x2]) (rest := [.int (0 : Int32), .ref (ad 60 0)]) ⟨C.1, C.2.1, C.2.2.1, C.2.2.2.1, C.2.2.2.2.1⟩ (c_X4_group l hlt D ca A ad ρ x1 x2 h8) (cwV 2 C.2.2.2.2.1 gL_group_X4_group rfl rfl rfl (by decide +kernel) ⟨Nat.le_of_ble_eq_true rfl, Nat.le_of_ble_eq_true rfl⟩) (kh_preVJ C hT hw hS 0 (kh_z0 ρ) kh_kd0 rfl) rfl rfl hl.1.1 rfl (lv_room (kh_sum (kh_ac rfl (kh_ac rfl kh_an)) (Nat.le_of_ble_eq_true rfl))) dL_group_5 ⟨Nat.le_of_ble_eq_true rfl, Nat.le_of_ble_eq_true rfl⟩) hS h9 (kh_notYi h9) (fun H locs ce q9 hw hS g7 g8 g9 => ?_)
    have hF : (if E = kh_E3 then some (1 : Int32) else (if E = kh_E1 then some (2 : Int32) else none)) = some q0.1 := hg
    by_cases c0 : E = kh_E3
    · have hF := kh_ift hF c0
      refine vx_catch (E := kh_E3) (name := kh_E3) C.2.2.2.1 [] ⟨0, 10, 13, 21⟩ [⟨0, 10, 17, 13⟩] htb (fun z hz => absurd hz List.not_mem_nil) (by decide) (by decide) (C.2.2.2.2.1 (.classLink RL 21 kh_E3) (by decide +kernel)) (va_Nw.use rfl hT.2.2.2.2.2.2.1) g7 g8 (by rw [← c0]; exact g9) ?_
      refine lv_astore C.1 C.2.1 dL_group_13 hl.1 (by decide) rfl (fun ls h6 => ?_)
      refine lv_iconst (v := (1 : Int32)) C.1 C.2.1 dL_group_15 (by decide) ?_
      refine W.widen (k := 2) (n := 12) (Nat.le_of_ble_eq_true rfl) (Nat.le_of_ble_eq_true rfl) ?_
      exact W.iret (v := (1 : Int32)) C.1 C.2.1 hr (fun t ht hW => ⟨⟨(1 : Int32), ρ1, rfl, hF0.trans (congrArg some (Prod.ext (Option.some.inj hF).symm hy)), kh_bk ht hw⟩, hS.F ht⟩) hS.2.2 dL_group_16
    have hF := kh_iff hF c0
    by_cases c1 : E = kh_E1
    · have hF := kh_ift hF c1
      refine vx_catch (E := kh_E1) (name := kh_E1) C.2.2.2.1 [⟨0, 10, 13, 21⟩] ⟨0, 10, 17, 13⟩ [] htb (List.forall_mem_cons.mpr ⟨Or.inr ⟨by decide, kh_E3, C.2.2.2.2.1 (.classLink RL 21 kh_E3) (by decide +kernel), hN.2.1⟩, (fun z hz => absurd hz List.not_mem_nil)⟩) (by decide) (by decide) (C.2.2.2.2.1 (.classLink RL 13 kh_E1) (by decide +kernel)) (va_Nw.use rfl hT.2.2.2.1.2.1) g7 g8 (by rw [← c1]; exact g9) ?_
      refine lv_astore C.1 C.2.1 dL_group_17 hl.1 (by decide) rfl (fun ls h6 => ?_)
      refine lv_iconst (v := (2 : Int32)) C.1 C.2.1 dL_group_19 (by decide) ?_
      refine W.widen (k := 2) (n := 12) (Nat.le_of_ble_eq_true rfl) (Nat.le_of_ble_eq_true rfl) ?_
      exact W.iret (v := (2 : Int32)) C.1 C.2.1 hr (fun t ht hW => ⟨⟨(2 : Int32), ρ1, rfl, hF0.trans (congrArg some (Prod.ext (Option.some.inj hF).symm hy)), kh_bk ht hw⟩, hS.F ht⟩) hS.2.2 dL_group_20
    have hF := kh_iff hF c1
    exact absurd hF (fun z => nomatch z)
  obtain ⟨q8, h8⟩ := kh_ptS h9
  refine kh_xcalli (vx_runV (As := [.int x1, .int x2]) (rest := [.int (0 : Int32), .ref (ad 60 0)]) ⟨C.1, C.2.1, C.2.2.1, C.2.2.2.1, C.2.2.2.2.1⟩ (c_X4_group l hlt D ca A ad ρ x1 x2 h8) (cwV 2 C.2.2.2.2.1 gL_group_X4_group rfl rfl rfl (by decide +kernel) ⟨Nat.le_of_ble_eq_true rfl, Nat.le_of_ble_eq_true rfl⟩) (kh_preVJ C hT hw hS 0 (kh_z0 ρ) kh_kd0 rfl) rfl rfl hl.1.1 rfl (lv_room (kh_sum (kh_ac rfl (kh_ac rfl kh_an)) (Nat.le_of_ble_eq_true rfl))) dL_group_5 ⟨Nat.le_of_ble_eq_true rfl, Nat.le_of_ble_eq_true rfl⟩) hS h9 (fun H locs hw hS => ?_)
  refine lv_i2l (v := r9.toInt64) C.1 C.2.1 dL_group_8 rfl ?_
  refine kh_last C hw hS 60 (x := r9) rfl (kh_z60 ρ1) (by decide) kh_kd60 (by decide) rfl dL_group_9 (fun H locs hw hS => ?_)
  refine lv_goto (tgt := 21) C.1 C.2.1 dL_group_10 (by decide) ?_
  refine lv_iconst (v := (0 : Int32)) C.1 C.2.1 dL_group_21 (by decide) ?_
  refine W.widen (k := 2) (n := 12) (Nat.le_of_ble_eq_true rfl) (Nat.le_of_ble_eq_true rfl) ?_
  exact W.iret (v := (0 : Int32)) C.1 C.2.1 hr (fun t ht hW => ⟨⟨(0 : Int32), kh_up ρ1 60 0 0 (0 : Int32).toNatClampNeg r9, rfl, hF0.trans hF.symm, kh_bk ht hw⟩, hS.F ht⟩) hS.2.2 dL_group_22

def f_L_crew (ρ : kh_S) (x1 : Int32) (x2 : Int32) : Option (Int32 × kh_S) := kh_hx (kh_pt (f_X4_crew ρ x1 x2) ρ) (fun E => if E = kh_E3 then some (1 : Int32) else (if E = kh_E1 then some (2 : Int32) else none)) (fun r => some ((0 : Int32), kh_up r.2 60 0 0 (0 : Int32).toNatClampNeg r.1))
set_option maxHeartbeats 4000000 in
set_option maxRecDepth 100000 in
theorem c_L_crew (l : Launch) (hlt : l.stackTraces = false) (D : va_G) (ca : Nat → ClassId) (A : Nat → Prop) (ad : Nat → Nat → Nat) (ρ : kh_S) (x1 : Int32) (x2 : Int32) {q0 : Int32 × kh_S} (hF0 : f_L_crew ρ x1 x2 = some q0) : Met l yL_crew wsL_crew ({ frames := 8, cells := 2, slots := 12, locals := 134 } : Room) (va_Pc [.ref (ad 0 0), .int x1, .int x2, .ref (ad 60 0)] (kh_JL D ca A ad ρ)) (kh_Qi D ca A ad (f_L_crew ρ x1 x2)) 2 12 A := by
  refine kh_ofWH (cc := cL_crew) (maxL := 5) (ret := some .int) (hh := [(0, 10, 13, 21), (0, 10, 17, 13)]) (by decide) rfl ?_
  intro p e s m args below meth c s₁ B hml htb hv
  obtain ⟨rfl, ⟨⟨hK, hw, hA⟩, hT⟩, hN⟩ := hv
  have C : kh_C p s m ([.ref (ad 0 0), .int x1, .int x2, .ref (ad 60 0)]).toArray c cL_crew 5 RL wsL_crew D ca A := ⟨B.exec, B.bytes, hml, findClass_of_methodNamed B.named, atoms_spec (ws := wsL_crew) B.pre, hK, hA⟩
  have hr := B.returns
  have hlocks := B.notSynchronized
  have hS : va_S A s.heap s.heap [] := va_S.rf
  have hl := kh_entry ([.ref (ad 0 0), .int x1, .int x2, .ref (ad 60 0)]) (n := 5) (kh_ac rfl (kh_ac rfl (kh_ac rfl (kh_ac rfl kh_an)))) (Nat.le_of_ble_eq_true rfl)
  rw [lg_entry_eq]
  generalize (lg_sl ([.ref (ad 0 0), .int x1, .int x2, .ref (ad 60 0)]) ++ List.replicate (5 - (lg_sl ([.ref (ad 0 0), .int x1, .int x2, .ref (ad 60 0)])).length) Slot.unset).toArray = ls at hl ⊢
  have hl : kh_lv ls 5 [(0, .ref (ad 0 0)), (1, .int x1), (2, .int x2), (3, .ref (ad 60 0))] := hl
  have hF := hF0
  unfold f_L_crew at hF
  refine lv_aload_n C.1 C.2.1 dL_crew_0 rfl (kh_at hl 3 rfl) ?_
  refine lv_iconst (v := (0 : Int32)) C.1 C.2.1 dL_crew_1 (by decide) ?_
  refine lv_aload_n C.1 C.2.1 dL_crew_2 rfl (kh_at hl 0 rfl) ?_
  refine lv_iload_n C.1 C.2.1 dL_crew_3 rfl (kh_at hl 1 rfl) ?_
  refine lv_iload_n C.1 C.2.1 dL_crew_4 rfl (kh_at hl 2 rfl) ?_
  rcases kh_hx_ok hF with ⟨E, ρ1, h9, hg, hy⟩ | ⟨⟨r9, ρ1⟩, h9, hF⟩
  · obtain ⟨q8, h8⟩ := kh_ptS h9
    refine kh_xcallX (vx_runV (As := [.int x1, .int x2]) (rest := [.int (0 : Int32), .ref (ad 60 0)]) ⟨C.1, C.2.1, C.2.2.1, C.2.2.2.1, C.2.2.2.2.1⟩ (c_X4_crew l hlt D ca A ad ρ x1 x2 h8) (cwV 2 C.2.2.2.2.1 gL_crew_X4_crew rfl rfl rfl (by decide +kernel) ⟨Nat.le_of_ble_eq_true rfl, Nat.le_of_ble_eq_true rfl⟩) (kh_preVJ C hT hw hS 0 (kh_z0 ρ) kh_kd0 rfl) rfl rfl hl.1.1 rfl (lv_room (kh_sum (kh_ac rfl (kh_ac rfl kh_an)) (Nat.le_of_ble_eq_true rfl))) dL_crew_5 ⟨Nat.le_of_ble_eq_true rfl, Nat.le_of_ble_eq_true rfl⟩) hS h9 (kh_notYi h9) (fun H locs ce q9 hw hS g7 g8 g9 => ?_)
    have hF : (if E = kh_E3 then some (1 : Int32) else (if E = kh_E1 then some (2 : Int32) else none)) = some q0.1 := hg
    by_cases c0 : E = kh_E3
    · have hF := kh_ift hF c0
      refine vx_catch (E := kh_E3) (name := kh_E3) C.2.2.2.1 [] ⟨0, 10, 13, 21⟩ [⟨0, 10, 17, 13⟩] htb (fun z hz => absurd hz List.not_mem_nil) (by decide) (by decide) (C.2.2.2.2.1 (.classLink RL 21 kh_E3) (by decide +kernel)) (va_Nw.use rfl hT.2.2.2.2.2.2.1) g7 g8 (by rw [← c0]; exact g9) ?_
      refine lv_astore C.1 C.2.1 dL_crew_13 hl.1 (by decide) rfl (fun ls h6 => ?_)
      refine lv_iconst (v := (1 : Int32)) C.1 C.2.1 dL_crew_15 (by decide) ?_
      refine W.widen (k := 2) (n := 12) (Nat.le_of_ble_eq_true rfl) (Nat.le_of_ble_eq_true rfl) ?_
      exact W.iret (v := (1 : Int32)) C.1 C.2.1 hr (fun t ht hW => ⟨⟨(1 : Int32), ρ1, rfl, hF0.trans (congrArg some (Prod.ext (Option.some.inj hF).symm hy)), kh_bk ht hw⟩, hS.F ht⟩) hS.2.2 dL_crew_16
    have hF := kh_iff hF c0
    by_cases c1 : E = kh_E1
    · have hF := kh_ift hF c1
      refine vx_catch (E := kh_E1) (name := kh_E1) C.2.2.2.1 [⟨0, 10, 13, 21⟩] ⟨0, 10, 17, 13⟩ [] htb (List.forall_mem_cons.mpr ⟨Or.inr ⟨by decide, kh_E3, C.2.2.2.2.1 (.classLink RL 21 kh_E3) (by decide +kernel), hN.2.1⟩, (fun z hz => absurd hz List.not_mem_nil)⟩) (by decide) (by decide) (C.2.2.2.2.1 (.classLink RL 13 kh_E1) (by decide +kernel)) (va_Nw.use rfl hT.2.2.2.1.2.1) g7 g8 (by rw [← c1]; exact g9) ?_
      refine lv_astore C.1 C.2.1 dL_crew_17 hl.1 (by decide) rfl (fun ls h6 => ?_)
      refine lv_iconst (v := (2 : Int32)) C.1 C.2.1 dL_crew_19 (by decide) ?_
      refine W.widen (k := 2) (n := 12) (Nat.le_of_ble_eq_true rfl) (Nat.le_of_ble_eq_true rfl) ?_
      exact W.iret (v := (2 : Int32)) C.1 C.2.1 hr (fun t ht hW => ⟨⟨(2 : Int32), ρ1, rfl, hF0.trans (congrArg some (Prod.ext (Option.some.inj hF).symm hy)), kh_bk ht hw⟩, hS.F ht⟩) hS.2.2 dL_crew_20
    have hF := kh_iff hF c1
    exact absurd hF (fun z => nomatch z)
  obtain ⟨q8, h8⟩ := kh_ptS h9
  refine kh_xcalli (vx_runV (As := [.int x1, .int x2]) (rest := [.int (0 : Int32), .ref (ad 60 0)]) ⟨C.1, C.2.1, C.2.2.1, C.2.2.2.1, C.2.2.2.2.1⟩ (c_X4_crew l hlt D ca A ad ρ x1 x2 h8) (cwV 2 C.2.2.2.2.1 gL_crew_X4_crew rfl rfl rfl (by decide +kernel) ⟨Nat.le_of_ble_eq_true rfl, Nat.le_of_ble_eq_true rfl⟩) (kh_preVJ C hT hw hS 0 (kh_z0 ρ) kh_kd0 rfl) rfl rfl hl.1.1 rfl (lv_room (kh_sum (kh_ac rfl (kh_ac rfl kh_an)) (Nat.le_of_ble_eq_true rfl))) dL_crew_5 ⟨Nat.le_of_ble_eq_true rfl, Nat.le_of_ble_eq_true rfl⟩) hS h9 (fun H locs hw hS => ?_)
  refine lv_i2l (v := r9.toInt64) C.1 C.2.1 dL_crew_8 rfl ?_
  refine kh_last C hw hS 60 (x := r9) rfl (kh_z60 ρ1) (by decide) kh_kd60 (by decide) rfl dL_crew_9 (fun H locs hw hS => ?_)
  refine lv_goto (tgt := 21) C.1 C.2.1 dL_crew_10 (by decide) ?_
  refine lv_iconst (v := (0 : Int32)) C.1 C.2.1 dL_crew_21 (by decide) ?_
  refine W.widen (k := 2) (n := 12) (Nat.le_of_ble_eq_true rfl) (Nat.le_of_ble_eq_true rfl) ?_
  exact W.iret (v := (0 : Int32)) C.1 C.2.1 hr (fun t ht hW => ⟨⟨(0 : Int32), kh_up ρ1 60 0 0 (0 : Int32).toNatClampNeg r9, rfl, hF0.trans hF.symm, kh_bk ht hw⟩, hS.F ht⟩) hS.2.2 dL_crew_22

def f_L_booking (ρ : kh_S) (x1 : Int32) (x2 : Int32) : Option (Int32 × kh_S) := kh_hx (kh_pt (f_X4_booking ρ x1 x2) ρ) (fun E => if E = kh_E3 then some (1 : Int32) else (if E = kh_E1 then some (2 : Int32) else none)) (fun r => some ((0 : Int32), kh_up r.2 60 0 0 (0 : Int32).toNatClampNeg r.1))
set_option maxHeartbeats 4000000 in
set_option maxRecDepth 100000 in
theorem c_L_booking (l : Launch) (hlt : l.stackTraces = false) (D : va_G) (ca : Nat → ClassId) (A : Nat → Prop) (ad : Nat → Nat → Nat) (ρ : kh_S) (x1 : Int32) (x2 : Int32) {q0 : Int32 × kh_S} (hF0 : f_L_booking ρ x1 x2 = some q0) : Met l yL_booking wsL_booking ({ frames := 8, cells := 2, slots := 12, locals := 134 } : Room) (va_Pc [.ref (ad 0 0), .int x1, .int x2, .ref (ad 60 0)] (kh_JL D ca A ad ρ)) (kh_Qi D ca A ad (f_L_booking ρ x1 x2)) 2 12 A := by
  refine kh_ofWH (cc := cL_booking) (maxL := 5) (ret := some .int) (hh := [(0, 10, 13, 21), (0, 10, 17, 13)]) (by decide) rfl ?_
  intro p e s m args below meth c s₁ B hml htb hv
  obtain ⟨rfl, ⟨⟨hK, hw, hA⟩, hT⟩, hN⟩ := hv
  have C : kh_C p s m ([.ref (ad 0 0), .int x1, .int x2, .ref (ad 60 0)]).toArray c cL_booking 5 RL wsL_booking D ca A := ⟨B.exec, B.bytes, hml, findClass_of_methodNamed B.named, atoms_spec (ws := wsL_booking) B.pre, hK, hA⟩
  have hr := B.returns
  have hlocks := B.notSynchronized
  have hS : va_S A s.heap s.heap [] := va_S.rf
  have hl := kh_entry ([.ref (ad 0 0), .int x1, .int x2, .ref (ad 60 0)]) (n := 5) (kh_ac rfl (kh_ac rfl (kh_ac rfl (kh_ac rfl kh_an)))) (Nat.le_of_ble_eq_true rfl)
  rw [lg_entry_eq]
  generalize (lg_sl ([.ref (ad 0 0), .int x1, .int x2, .ref (ad 60 0)]) ++ List.replicate (5 - (lg_sl ([.ref (ad 0 0), .int x1, .int x2, .ref (ad 60 0)])).length) Slot.unset).toArray = ls at hl ⊢
  have hl : kh_lv ls 5 [(0, .ref (ad 0 0)), (1, .int x1), (2, .int x2), (3, .ref (ad 60 0))] := hl
  have hF := hF0
  unfold f_L_booking at hF
  refine lv_aload_n C.1 C.2.1 dL_booking_0 rfl (kh_at hl 3 rfl) ?_
  refine lv_iconst (v := (0 : Int32)) C.1 C.2.1 dL_booking_1 (by decide) ?_
  refine lv_aload_n C.1 C.2.1 dL_booking_2 rfl (kh_at hl 0 rfl) ?_
  refine lv_iload_n C.1 C.2.1 dL_booking_3 rfl (kh_at hl 1 rfl) ?_
  refine lv_iload_n C.1 C.2.1 dL_booking_4 rfl (kh_at hl 2 rfl) ?_
  rcases kh_hx_ok hF with ⟨E, ρ1, h9, hg, hy⟩ | ⟨⟨r9, ρ1⟩, h9, hF⟩
  · obtain ⟨q8, h8⟩ := kh_ptS h9
    refine kh_xcallX (vx_runV (As := [.int x1, .int x2]) (rest := [.int (0 : Int32), .ref (ad 60 0)]) ⟨C.1, C.2.1, C.2.2.1, C.2.2.2.1, C.2.2.2.2.1⟩ (c_X4_booking l hlt D ca A ad ρ x1 x2 h8) (cwV 2 C.2.2.2.2.1 gL_booking_X4_booking rfl rfl rfl (by decide +kernel) ⟨Nat.le_of_ble_eq_true rfl, Nat.le_of_ble_eq_true rfl⟩) (kh_preVJ C hT hw hS 0 (kh_z0 ρ) kh_kd0 rfl) rfl rfl hl.1.1 rfl (lv_room (kh_sum (kh_ac rfl (kh_ac rfl kh_an)) (Nat.le_of_ble_eq_true rfl))) dL_booking_5 ⟨Nat.le_of_ble_eq_true rfl, Nat.le_of_ble_eq_true rfl⟩) hS h9 (kh_notYi h9) (fun H locs ce q9 hw hS g7 g8 g9 => ?_)
    have hF : (if E = kh_E3 then some (1 : Int32) else (if E = kh_E1 then some (2 : Int32) else none)) = some q0.1 := hg
    by_cases c0 : E = kh_E3
    · have hF := kh_ift hF c0
      refine vx_catch (E := kh_E3) (name := kh_E3) C.2.2.2.1 [] ⟨0, 10, 13, 21⟩ [⟨0, 10, 17, 13⟩] htb (fun z hz => absurd hz List.not_mem_nil) (by decide) (by decide) (C.2.2.2.2.1 (.classLink RL 21 kh_E3) (by decide +kernel)) (va_Nw.use rfl hT.2.2.2.2.2.2.1) g7 g8 (by rw [← c0]; exact g9) ?_
      refine lv_astore C.1 C.2.1 dL_booking_13 hl.1 (by decide) rfl (fun ls h6 => ?_)
      refine lv_iconst (v := (1 : Int32)) C.1 C.2.1 dL_booking_15 (by decide) ?_
      refine W.widen (k := 2) (n := 12) (Nat.le_of_ble_eq_true rfl) (Nat.le_of_ble_eq_true rfl) ?_
      exact W.iret (v := (1 : Int32)) C.1 C.2.1 hr (fun t ht hW => ⟨⟨(1 : Int32), ρ1, rfl, hF0.trans (congrArg some (Prod.ext (Option.some.inj hF).symm hy)), kh_bk ht hw⟩, hS.F ht⟩) hS.2.2 dL_booking_16
    have hF := kh_iff hF c0
    by_cases c1 : E = kh_E1
    · have hF := kh_ift hF c1
      refine vx_catch (E := kh_E1) (name := kh_E1) C.2.2.2.1 [⟨0, 10, 13, 21⟩] ⟨0, 10, 17, 13⟩ [] htb (List.forall_mem_cons.mpr ⟨Or.inr ⟨by decide, kh_E3, C.2.2.2.2.1 (.classLink RL 21 kh_E3) (by decide +kernel), hN.2.1⟩, (fun z hz => absurd hz List.not_mem_nil)⟩) (by decide) (by decide) (C.2.2.2.2.1 (.classLink RL 13 kh_E1) (by decide +kernel)) (va_Nw.use rfl hT.2.2.2.1.2.1) g7 g8 (by rw [← c1]; exact g9) ?_
      refine lv_astore C.1 C.2.1 dL_booking_17 hl.1 (by decide) rfl (fun ls h6 => ?_)
      refine lv_iconst (v := (2 : Int32)) C.1 C.2.1 dL_booking_19 (by decide) ?_
      refine W.widen (k := 2) (n := 12) (Nat.le_of_ble_eq_true rfl) (Nat.le_of_ble_eq_true rfl) ?_
      exact W.iret (v := (2 : Int32)) C.1 C.2.1 hr (fun t ht hW => ⟨⟨(2 : Int32), ρ1, rfl, hF0.trans (congrArg some (Prod.ext (Option.some.inj hF).symm hy)), kh_bk ht hw⟩, hS.F ht⟩) hS.2.2 dL_booking_20
    have hF := kh_iff hF c1
    exact absurd hF (fun z => nomatch z)
  obtain ⟨q8, h8⟩ := kh_ptS h9
  refine kh_xcalli (vx_runV (As := [.int x1, .int x2]) (rest := [.int (0 : Int32), .ref (ad 60 0)]) ⟨C.1, C.2.1, C.2.2.1, C.2.2.2.1, C.2.2.2.2.1⟩ (c_X4_booking l hlt D ca A ad ρ x1 x2 h8) (cwV 2 C.2.2.2.2.1 gL_booking_X4_booking rfl rfl rfl (by decide +kernel) ⟨Nat.le_of_ble_eq_true rfl, Nat.le_of_ble_eq_true rfl⟩) (kh_preVJ C hT hw hS 0 (kh_z0 ρ) kh_kd0 rfl) rfl rfl hl.1.1 rfl (lv_room (kh_sum (kh_ac rfl (kh_ac rfl kh_an)) (Nat.le_of_ble_eq_true rfl))) dL_booking_5 ⟨Nat.le_of_ble_eq_true rfl, Nat.le_of_ble_eq_true rfl⟩) hS h9 (fun H locs hw hS => ?_)
  refine lv_i2l (v := r9.toInt64) C.1 C.2.1 dL_booking_8 rfl ?_
  refine kh_last C hw hS 60 (x := r9) rfl (kh_z60 ρ1) (by decide) kh_kd60 (by decide) rfl dL_booking_9 (fun H locs hw hS => ?_)
  refine lv_goto (tgt := 21) C.1 C.2.1 dL_booking_10 (by decide) ?_
  refine lv_iconst (v := (0 : Int32)) C.1 C.2.1 dL_booking_21 (by decide) ?_
  refine W.widen (k := 2) (n := 12) (Nat.le_of_ble_eq_true rfl) (Nat.le_of_ble_eq_true rfl) ?_
  exact W.iret (v := (0 : Int32)) C.1 C.2.1 hr (fun t ht hW => ⟨⟨(0 : Int32), kh_up ρ1 60 0 0 (0 : Int32).toNatClampNeg r9, rfl, hF0.trans hF.symm, kh_bk ht hw⟩, hS.F ht⟩) hS.2.2 dL_booking_22

