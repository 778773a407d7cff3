/-! the methods that make new objects -/
noncomputable def f_X4_room_L54 (ρ : kh_S) (ρ_54 : kh_S) (x2_54 : Int32) (t1_54 : Int32) (t2_54 : Int32) : Option ((String × kh_S) ⊕ (Int32 × kh_S)) := kh_gd (kh_in t1_54 4) (kh_gd (kh_in t2_54 (kh_n ρ_54 6)) (some (.inr (x2_54, kh_up (kh_up ρ_54 1 0 0 t1_54.toNatClampNeg t2_54) 0 1 0 0 (((kh_up ρ_54 1 0 0 t1_54.toNatClampNeg t2_54) 0 1 0 0) + (1 : Int32))))))
noncomputable def f_X4_room (ρ : kh_S) (x1 : Int32) : Option ((String × kh_S) ⊕ (Int32 × kh_S)) := kh_bd (f_X4_areThings ρ x1) (fun r_3 => if r_3 = 0 then some (.inl (kh_E1, ρ)) else if (ρ 0 1 0 0) < (4 : Int32) then kh_gp (kh_ok ρ) (kh_gd (kh_in (ρ 61 0 0 0) 1000) (f_X4_room_L54 ρ (kh_mkR ρ (ρ 0 1 0 0) x1) (ρ 0 1 0 0) (ρ 0 1 0 0) (ρ 61 0 0 0))) else some (.inl (kh_E2, ρ)))
set_option maxHeartbeats 4000000 in
set_option maxRecDepth 100000 in
theorem c_X4_room (l : Launch) (hlt : l.stackTraces = false) (D : va_G) (ca : Nat → ClassId) (A : Nat → Prop) (ad : Nat → Nat → Nat) (ρ : kh_S) (x1 : Int32) {q0 : (String × kh_S) ⊕ (Int32 × kh_S)} (hF0 : f_X4_room ρ x1 = some q0) : vx_Met l yX4_room wsX4_room ({ frames := 6, cells := 5, slots := 45, locals := 90 } : Room) (va_Pc [.ref (ad 0 0), .int x1] (kh_J D ca A ad ρ)) (kh_YiN D ca A ad ρ (f_X4_room ρ x1)) (kh_X D ca A ad (f_X4_room ρ x1)) 5 45 A := by
  refine vx_ofW (cc := cX4_room) (maxL := 3) (ret := (some .int)) (by decide) rfl ?_
  intro p e s m args below meth c s₁ B hml hout hv
  obtain ⟨rfl, ⟨hK, hw, hA⟩, hT⟩ := hv
  have C : kh_C p s m ([.ref (ad 0 0), .int x1]).toArray c cX4_room 3 RX4 wsX4_room D ca A := ⟨B.exec, B.bytes, hml, findClass_of_methodNamed B.named, atoms_spec (ws := wsX4_room) B.pre, hK, hA⟩
  have hr := B.returns
  have hlocks := B.notSynchronized
  have hS : va_S A s.heap s.heap [] := va_S.rf
  have hl := kh_entry ([.ref (ad 0 0), .int x1]) (n := 3) (kh_ac rfl (kh_ac rfl kh_an)) (Nat.le_of_ble_eq_true rfl)
  rw [lg_entry_eq]
  generalize (lg_sl ([.ref (ad 0 0), .int x1]) ++ List.replicate (3 - (lg_sl ([.ref (ad 0 0), .int x1])).length) Slot.unset).toArray = ls at hl ⊢
  have hl : kh_lv ls 3 [(0, .ref (ad 0 0)), (1, .int x1)] := hl
  have k_49 := C.2.2.2.2.1 (.fieldLink RX4 49 "KeylessHall" "roomCount" "I") (by decide +kernel)
  have k_11 := C.2.2.2.2.1 (.fieldLink RX4 11 "KeylessHall" "rooms" "[LKeylessHall$Room;") (by decide +kernel)
  have hF := hF0
  unfold f_X4_room at hF
  have wL54 : ∀ (ad2 : Nat → Nat → Nat) (ρ_54 : kh_S) (x2_54 : Int32) (t1_54 : Int32) (t2_54 : Int32) (H : Heap) (locs : List Loc) (ls : Array Slot), f_X4_room_L54 ρ ρ_54 x2_54 t1_54 t2_54 = some q0 → kh_ag ad ad2 ρ → kh_w D ca A ad2 ρ_54 H → va_S A s.heap H locs → kh_lv ls 3 [(0, .ref (ad2 0 0)), (2, .int x2_54)] → W p l e (headSpec wsX4_room ({ frames := 6, cells := 5, slots := 45, locals := 90 } : Room)).room s m ([.ref (ad 0 0), .int x1]).toArray below meth c H locs 5 45 (vx_MQ below (kh_YiN D ca A ad ρ (f_X4_room ρ x1)) (kh_X D ca A ad (f_X4_room ρ x1)) ([.ref (ad 0 0), .int x1]).toArray s 5 45 A) (F0 m 54 ls [va_rf (kh_rc ad2 6 t2_54), .int t1_54, .ref (ad2 1 0)]) := by
    intro ad2 ρ_54 x2_54 t1_54 t2_54 H locs ls hF hag hw hS hl
    unfold f_X4_room_L54 at hF
    obtain ⟨g_1, hF⟩ := kh_gd_ok hF
    obtain ⟨g_2, hF⟩ := kh_gd_ok hF
    refine kh_aast C hw hS 1 6 (N := 13) (T := TX2) rfl (kh_z1 ρ_54) (by decide) kh_kd1 kh_ty1 kh_kd6 rfl g_1 rfl g_2 dX4_room_54 (fun H locs hw hS => ?_)
    refine lv_aload_n C.1 C.2.1 dX4_room_55 rfl (kh_at hl 0 rfl) ?_
    refine lv_dup C.1 C.2.1 dX4_room_56 rfl ?_
    refine kh_get C hw 0 1 rfl (kh_z0 (kh_up ρ_54 1 0 0 t1_54.toNatClampNeg t2_54)) kh_kd0 (Cn := RX4) (T := TX4) (N := 10) rfl (Nat.le_of_ble_eq_true rfl) k_49 (kf_0_1 ad2 (kh_up ρ_54 1 0 0 t1_54.toNatClampNeg t2_54) 0) dX4_room_57 ?_
    refine lv_iconst (v := (1 : Int32)) C.1 C.2.1 dX4_room_60 (by decide) ?_
    refine lv_iadd C.1 C.2.1 dX4_room_61 ?_
    refine kh_putI C hw hS 0 1 rfl (kh_z0 (kh_up ρ_54 1 0 0 t1_54.toNatClampNeg t2_54)) kh_kd0 (by decide) (Cn := RX4) (T := TX4) (N := 10) rfl (Nat.le_of_ble_eq_true rfl) (kq_0_1) k_49 rfl (by decide +kernel) dX4_room_62 (fun H locs hw hS => ?_)
    refine lv_iload_n C.1 C.2.1 dX4_room_65 rfl (kh_at hl 1 rfl) ?_
    refine vx_ret (W.widen (k := 5) (n := 45) (Nat.le_of_ble_eq_true rfl) (Nat.le_of_ble_eq_true rfl) ?_)
    exact W.iret (v := x2_54) C.1 C.2.1 hr (fun t ht hW => ⟨⟨x2_54, (ad2, kh_up (kh_up ρ_54 1 0 0 t1_54.toNatClampNeg t2_54) 0 1 0 0 (((kh_up ρ_54 1 0 0 t1_54.toNatClampNeg t2_54) 0 1 0 0) + (1 : Int32))), rfl, ⟨hF0.trans hF.symm, hag⟩, kh_bk ht hw⟩, hS.F ht⟩) hS.2.2 dX4_room_66
  refine lv_iload_n C.1 C.2.1 dX4_room_0 rfl (kh_at hl 1 rfl) ?_
  obtain ⟨r_3, h_3, hF⟩ := kh_bd_ok hF
  refine kh_calli (va_runS (As := [.int x1]) (rest := []) ⟨C.1, C.2.1, C.2.2.1, C.2.2.2.1, C.2.2.2.2.1⟩ (c_X4_areThings l D ca A ad ρ x1 h_3) (va_cwS 1 C.2.2.2.2.1 gX4_room_X4_areThings rfl rfl rfl (by decide +kernel) ⟨Nat.le_of_ble_eq_true rfl, Nat.le_of_ble_eq_true rfl⟩) (kh_preS C hw hS) rfl rfl hl.1.1 rfl (lv_room (kh_sum kh_an (Nat.le_of_ble_eq_true rfl))) dX4_room_1 ⟨Nat.le_of_ble_eq_true rfl, Nat.le_of_ble_eq_true rfl⟩) hS (kh_mp h_3) (fun H locs hw hS => ?_)
  refine lv_if_ne (tgt := 17) C.1 C.2.1 dX4_room_4 (by decide) (fun c_4 => ?_) (fun c_4 => ?_)
  · have hF := kh_iff hF c_4
    refine lv_aload_n C.1 C.2.1 dX4_room_17 rfl (kh_at hl 0 rfl) ?_
    refine kh_get C hw 0 1 rfl (kh_z0 ρ) kh_kd0 (Cn := RX4) (T := TX4) (N := 10) rfl (Nat.le_of_ble_eq_true rfl) k_49 (kf_0_1 ad ρ 0) dX4_room_18 ?_
    refine lv_iconst (v := (4 : Int32)) C.1 C.2.1 dX4_room_21 (by decide) ?_
    refine lv_icmp_lt (tgt := 35) C.1 C.2.1 dX4_room_22 (by decide) (fun c_5 => ?_) (fun c_5 => ?_)
    · have hF := kh_ift hF c_5
      refine lv_aload_n C.1 C.2.1 dX4_room_35 rfl (kh_at hl 0 rfl) ?_
      refine kh_get C hw 0 1 rfl (kh_z0 ρ) kh_kd0 (Cn := RX4) (T := TX4) (N := 10) rfl (Nat.le_of_ble_eq_true rfl) k_49 (kf_0_1 ad ρ 0) dX4_room_36 ?_
      refine kh_istore_n (lv' := [(2, .int (ρ 0 1 0 0)), (0, .ref (ad 0 0)), (1, .int x1)]) C.1 C.2.1 dX4_room_39 rfl hl (by decide) rfl (fun ls hl => ?_)
      refine lv_aload_n C.1 C.2.1 dX4_room_40 rfl (kh_at hl 1 rfl) ?_
      refine kh_get C hw 0 0 rfl (kh_z0 ρ) kh_kd0 (Cn := RX4) (T := TX4) (N := 10) rfl (Nat.le_of_ble_eq_true rfl) k_11 (kf_0_0 ad ρ 0) dX4_room_41 ?_
      refine lv_iload_n C.1 C.2.1 dX4_room_44 rfl (kh_at hl 0 rfl) ?_
      obtain ⟨hok, hF⟩ := kh_gp_ok hF
      obtain ⟨g_7, hF⟩ := kh_gd_ok hF
      refine kh_new2 (ci := 2) (N := 13) (Cn := RX2) (T := TX2) (fs := [.int 0, .int 0, .null, .null, .null, .null, .int 0, .int 0, .int 0, .int 0, .int 0, .int 0, .null]) C hw hS rfl tyX2 tyX2_ok (fun j hj => by rcases (show j = 0 ∨ j = 1 ∨ j = 2 ∨ j = 3 ∨ j = 4 ∨ j = 5 ∨ j = 6 ∨ j = 7 ∨ j = 8 ∨ j = 9 ∨ j = 10 ∨ j = 11 ∨ j = 12 by omega) with rfl | rfl | rfl | rfl | rfl | rfl | rfl | rfl | rfl | rfl | rfl | rfl | rfl <;> rfl) (C.2.2.2.2.1 (.classLink RX4 9 RX2) (by decide +kernel)) (C.2.2.2.2.1 (.instantiable RX2 13) (by decide +kernel)) (C.2.2.2.2.1 (.initialized RX2) (by decide +kernel)) (Nat.le_of_ble_eq_true rfl) (Nat.le_of_ble_eq_true rfl) dX4_room_45 (fun q_6 H hw hqw hqz hA0 hPq hS => ?_)
      refine lv_dup C.1 C.2.1 dX4_room_48 rfl ?_
      refine lv_iload_n C.1 C.2.1 dX4_room_49 rfl (kh_at hl 0 rfl) ?_
      refine lv_iload_n C.1 C.2.1 dX4_room_50 rfl (kh_at hl 2 rfl) ?_
      have hAx : ∀ z : Nat, H.size ≤ z → A z := fun z h => C.2.2.2.2.2.2 z (Nat.le_trans hS.1 h)
      have hfr : ∀ z : Nat, va_A (kh_bX2_init q_6) H.size z → A z := fun z h => (kh_aA rfl h).elim (fun e => by rw [e]; exact hA0) (hAx z)
      refine va_callv (va_runI (As := [.int (ρ 0 1 0 0), .int x1]) (rest := [.ref q_6, .int (ρ 0 1 0 0), .ref (ad 1 0)]) ⟨C.1, C.2.1, C.2.2.1, C.2.2.2.1, C.2.2.2.2.1⟩ (c_X2_init l D ca q_6 H.size (ρ 0 1 0 0) x1) (cwI 2 C.2.2.2.2.1 gX4_room_X2_init rfl rfl rfl (C.2.2.2.2.1 (.initialized RX2) (by decide +kernel)) (C.2.2.2.2.1 (.methodLink RX4 58 yX2_init) (by decide +kernel)) (C.2.2.2.2.1 (.instanceMethod yX2_init) (by decide +kernel)) rfl (by decide +kernel) ⟨Nat.le_of_ble_eq_true rfl, Nat.le_of_ble_eq_true rfl⟩) ⟨kh_blindL, fun U hU hW => ⟨rfl, kh_K.moved hW C.2.2.2.2.2.1, by rw [hU], by rw [hU]; exact hPq, kh_D1⟩⟩ rfl rfl hl.1.1 rfl (lv_room (kh_sum (kh_ac rfl (kh_ac rfl (kh_ac rfl kh_an))) (Nat.le_of_ble_eq_true rfl))) dX4_room_51 ⟨Nat.le_of_ble_eq_true rfl, Nat.le_of_ble_eq_true rfl⟩) hS (fun z _ h => hfr z h) hfr (fun u t H locs ht hvm _ hB _ hk hS => ?_)
      obtain ⟨hPn, hDn⟩ := hB
      rw [ht] at hPn
      obtain ⟨hw, hag⟩ := kh_growR hw hok g_7 hqw hA0 hAx hk hPn hDn
      refine W.widen (k := 5) (n := 45) (Nat.le_of_ble_eq_true rfl) (Nat.le_of_ble_eq_true rfl) ?_
      have hl := kh_sub (l' := [(0, .ref (ad 0 0)), (2, .int (ρ 0 1 0 0))]) hl [1, 0] rfl
      rw [show ad 0 0 = (kh_adR ad (kh_n ρ 6) q_6 u.1 u.2.1 u.2.2.1 u.2.2.2) 0 0 from (hag 0 0 (kh_z0 ρ)).symm] at hl
      rw [show Value.ref q_6 = va_rf (kh_rc (kh_adR ad (kh_n ρ 6) q_6 u.1 u.2.1 u.2.2.1 u.2.2.2) 6 (ρ 61 0 0 0)) from kh_newref g_7 kh_adR6, show ad 1 0 = (kh_adR ad (kh_n ρ 6) q_6 u.1 u.2.1 u.2.2.1 u.2.2.2) 1 0 from (hag 1 0 (kh_z1 ρ)).symm]
      exact wL54 _ (kh_mkR ρ (ρ 0 1 0 0) x1) (ρ 0 1 0 0) (ρ 0 1 0 0) (ρ 61 0 0 0) _ _ _ hF hag hw hS hl
    · have hF := kh_iff hF c_5
      exact kh_throw C hlt hT hw hS hl.1.1 hout hlocks (ik := 53) (is := 55) (ic := 57) (text := "there are 4 rooms") hT.2.2.2.2.1 (by decide +kernel) (by decide +kernel) kh_hg2 kh_hb2 (C.2.2.2.2.1 (.classLink RX4 53 kh_E2) (by decide +kernel)) (C.2.2.2.2.1 (.initialized kh_E2) (by decide +kernel)) dX4_room_25 dX4_room_28 dX4_room_29 dX4_room_31 dX4_room_34 (hF0.trans hF.symm) ⟨Nat.le_of_ble_eq_true rfl, Nat.le_of_ble_eq_true rfl, Nat.le_of_ble_eq_true rfl, Nat.le_of_ble_eq_true rfl⟩ ⟨Nat.le_of_ble_eq_true rfl, Nat.le_of_ble_eq_true rfl⟩
  · have hF := kh_ift hF c_4
    exact kh_throw C hlt hT hw hS hl.1.1 hout hlocks (ik := 42) (is := 44) (ic := 46) (text := "things are 0 to 4095") hT.2.2.2.1 (by decide +kernel) (by decide +kernel) kh_hg1 kh_hb1 (C.2.2.2.2.1 (.classLink RX4 42 kh_E1) (by decide +kernel)) (C.2.2.2.2.1 (.initialized kh_E1) (by decide +kernel)) dX4_room_7 dX4_room_10 dX4_room_11 dX4_room_13 dX4_room_16 (hF0.trans hF.symm) ⟨Nat.le_of_ble_eq_true rfl, Nat.le_of_ble_eq_true rfl, Nat.le_of_ble_eq_true rfl, Nat.le_of_ble_eq_true rfl⟩ ⟨Nat.le_of_ble_eq_true rfl, Nat.le_of_ble_eq_true rfl⟩

noncomputable def f_X4_book_L90 (ρ : kh_S) (ρ_90 : kh_S) (x4_90 : Int32) (t1_90 : Int32) (t2_90 : Int32) : Option ((String × kh_S) ⊕ (Int32 × kh_S)) := kh_gd (kh_in t1_90 30) (kh_gd (kh_in t2_90 (kh_n ρ_90 14)) (some (.inr (x4_90, kh_up (kh_up ρ_90 3 0 0 t1_90.toNatClampNeg t2_90) 0 5 0 0 (((kh_up ρ_90 3 0 0 t1_90.toNatClampNeg t2_90) 0 5 0 0) + (1 : Int32))))))
noncomputable def f_X4_book_L21 (ρ : kh_S) : Option ((String × kh_S) ⊕ (Int32 × kh_S)) := some (.inl (kh_E1, ρ))
noncomputable def f_X4_book (ρ : kh_S) (x1 : Int32) (x2 : Int32) : Option ((String × kh_S) ⊕ (Int32 × kh_S)) := kh_bx (f_X4_roomNumbered ρ x1) (fun e_3 => some (.inl (e_3, ρ))) (fun r_3 => if x2 < (ρ 0 8 0 0) then f_X4_book_L21 ρ else if x2 ≤ (4940 : Int32) then kh_bd (f_X4_bookingTooNear ρ r_3 x2) (fun r_6 => if r_6 < 0 then if (ρ 0 5 0 0) < (30 : Int32) then kh_gp (kh_ok ρ) (kh_gd (kh_in (ρ 61 2 0 0) 1000) (f_X4_book_L90 ρ (kh_mkB ρ r_3 x2) (ρ 0 5 0 0) (ρ 0 5 0 0) (ρ 61 2 0 0))) else some (.inl (kh_E2, ρ)) else some (.inl (kh_E2, ρ))) else f_X4_book_L21 ρ)
set_option maxHeartbeats 4000000 in
set_option maxRecDepth 100000 in
theorem c_X4_book (l : Launch) (hlt : l.stackTraces = false) (D : va_G) (ca : Nat → ClassId) (A : Nat → Prop) (ad : Nat → Nat → Nat) (ρ : kh_S) (x1 : Int32) (x2 : Int32) {q0 : (String × kh_S) ⊕ (Int32 × kh_S)} (hF0 : f_X4_book ρ x1 x2 = some q0) : vx_Met l yX4_book wsX4_book ({ frames := 7, cells := 2, slots := 12, locals := 111 } : Room) (va_Pc [.ref (ad 0 0), .int x1, .int x2] (kh_J D ca A ad ρ)) (kh_YiN D ca A ad ρ (f_X4_book ρ x1 x2)) (kh_X D ca A ad (f_X4_book ρ x1 x2)) 2 12 A := by
  refine vx_ofW (cc := cX4_book) (maxL := 5) (ret := (some .int)) (by decide) rfl ?_
  intro p e s m args below meth c s₁ B hml hout hv
  obtain ⟨rfl, ⟨hK, hw, hA⟩, hT⟩ := hv
  have C : kh_C p s m ([.ref (ad 0 0), .int x1, .int x2]).toArray c cX4_book 5 RX4 wsX4_book D ca A := ⟨B.exec, B.bytes, hml, findClass_of_methodNamed B.named, atoms_spec (ws := wsX4_book) B.pre, hK, hA⟩
  have hr := B.returns
  have hlocks := B.notSynchronized
  have hS : va_S A s.heap s.heap [] := va_S.rf
  have hl := kh_entry ([.ref (ad 0 0), .int x1, .int x2]) (n := 5) (kh_ac rfl (kh_ac rfl (kh_ac rfl kh_an))) (Nat.le_of_ble_eq_true rfl)
  rw [lg_entry_eq]
  generalize (lg_sl ([.ref (ad 0 0), .int x1, .int x2]) ++ List.replicate (5 - (lg_sl ([.ref (ad 0 0), .int x1, .int x2])).length) Slot.unset).toArray = ls at hl ⊢
  have hl : kh_lv ls 5 [(0, .ref (ad 0 0)), (1, .int x1), (2, .int x2)] := hl
  have k_240 := C.2.2.2.2.1 (.fieldLink RX4 240 "KeylessHall" "bookingCount" "I") (by decide +kernel)
  have k_231 := C.2.2.2.2.1 (.fieldLink RX4 231 "KeylessHall" "now" "I") (by decide +kernel)
  have k_23 := C.2.2.2.2.1 (.fieldLink RX4 23 "KeylessHall" "bookings" "[LKeylessHall$Booking;") (by decide +kernel)
  have hF := hF0
  unfold f_X4_book at hF
  have wL90 : ∀ (ad2 : Nat → Nat → Nat) (ρ_90 : kh_S) (x4_90 : Int32) (t1_90 : Int32) (t2_90 : Int32) (H : Heap) (locs : List Loc) (ls : Array Slot), f_X4_book_L90 ρ ρ_90 x4_90 t1_90 t2_90 = some q0 → kh_ag ad ad2 ρ → kh_w D ca A ad2 ρ_90 H → va_S A s.heap H locs → kh_lv ls 5 [(0, .ref (ad2 0 0)), (4, .int x4_90)] → W p l e (headSpec wsX4_book ({ frames := 7, cells := 2, slots := 12, locals := 111 } : Room)).room s m ([.ref (ad 0 0), .int x1, .int x2]).toArray below meth c H locs 2 12 (vx_MQ below (kh_YiN D ca A ad ρ (f_X4_book ρ x1 x2)) (kh_X D ca A ad (f_X4_book ρ x1 x2)) ([.ref (ad 0 0), .int x1, .int x2]).toArray s 2 12 A) (F0 m 90 ls [va_rf (kh_rc ad2 14 t2_90), .int t1_90, .ref (ad2 3 0)]) := by
    intro ad2 ρ_90 x4_90 t1_90 t2_90 H locs ls hF hag hw hS hl
    unfold f_X4_book_L90 at hF
    obtain ⟨g_1, hF⟩ := kh_gd_ok hF
    obtain ⟨g_2, hF⟩ := kh_gd_ok hF
    refine kh_aast C hw hS 3 14 (N := 4) (T := TX0) rfl (kh_z3 ρ_90) (by decide) kh_kd3 kh_ty3 kh_kd14 rfl g_1 rfl g_2 dX4_book_90 (fun H locs hw hS => ?_)
    refine lv_aload_n C.1 C.2.1 dX4_book_91 rfl (kh_at hl 0 rfl) ?_
    refine lv_dup C.1 C.2.1 dX4_book_92 rfl ?_
    refine kh_get C hw 0 5 rfl (kh_z0 (kh_up ρ_90 3 0 0 t1_90.toNatClampNeg t2_90)) kh_kd0 (Cn := RX4) (T := TX4) (N := 10) rfl (Nat.le_of_ble_eq_true rfl) k_240 (kf_0_5 ad2 (kh_up ρ_90 3 0 0 t1_90.toNatClampNeg t2_90) 0) dX4_book_93 ?_
    refine lv_iconst (v := (1 : Int32)) C.1 C.2.1 dX4_book_96 (by decide) ?_
    refine lv_iadd C.1 C.2.1 dX4_book_97 ?_
    refine kh_putI C hw hS 0 5 rfl (kh_z0 (kh_up ρ_90 3 0 0 t1_90.toNatClampNeg t2_90)) kh_kd0 (by decide) (Cn := RX4) (T := TX4) (N := 10) rfl (Nat.le_of_ble_eq_true rfl) (kq_0_5) k_240 rfl (by decide +kernel) dX4_book_98 (fun H locs hw hS => ?_)
    refine lv_iload C.1 C.2.1 dX4_book_101 (kh_at hl 1 rfl) ?_
    refine vx_ret (W.widen (k := 2) (n := 12) (Nat.le_of_ble_eq_true rfl) (Nat.le_of_ble_eq_true rfl) ?_)
    exact W.iret (v := x4_90) C.1 C.2.1 hr (fun t ht hW => ⟨⟨x4_90, (ad2, kh_up (kh_up ρ_90 3 0 0 t1_90.toNatClampNeg t2_90) 0 5 0 0 (((kh_up ρ_90 3 0 0 t1_90.toNatClampNeg t2_90) 0 5 0 0) + (1 : Int32))), rfl, ⟨hF0.trans hF.symm, hag⟩, kh_bk ht hw⟩, hS.F ht⟩) hS.2.2 dX4_book_103
  have wL21 : ∀ (H : Heap) (locs : List Loc) (ls : Array Slot), f_X4_book_L21 ρ = some q0 → kh_w D ca A ad ρ H → va_S A s.heap H locs → kh_lv ls 5 [] → W p l e (headSpec wsX4_book ({ frames := 7, cells := 2, slots := 12, locals := 111 } : Room)).room s m ([.ref (ad 0 0), .int x1, .int x2]).toArray below meth c H locs 1 6 (vx_MQ below (kh_YiN D ca A ad ρ (f_X4_book ρ x1 x2)) (kh_X D ca A ad (f_X4_book ρ x1 x2)) ([.ref (ad 0 0), .int x1, .int x2]).toArray s 2 12 A) (F0 m 21 ls []) := by
    intro  H locs ls hF hw hS hl
    unfold f_X4_book_L21 at hF
    exact kh_throw C hlt hT hw hS hl.1.1 hout hlocks (ik := 42) (is := 234) (ic := 46) (text := "a booking begins now or later, at 4940 at the latest") hT.2.2.2.1 (by decide +kernel) (by decide +kernel) kh_hg1 kh_hb1 (C.2.2.2.2.1 (.classLink RX4 42 kh_E1) (by decide +kernel)) (C.2.2.2.2.1 (.initialized kh_E1) (by decide +kernel)) dX4_book_21 dX4_book_24 dX4_book_25 dX4_book_27 dX4_book_30 (hF0.trans hF.symm) ⟨Nat.le_of_ble_eq_true rfl, Nat.le_of_ble_eq_true rfl, Nat.le_of_ble_eq_true rfl, Nat.le_of_ble_eq_true rfl⟩ ⟨Nat.le_of_ble_eq_true rfl, Nat.le_of_ble_eq_true rfl⟩
  refine lv_aload_n C.1 C.2.1 dX4_book_0 rfl (kh_at hl 0 rfl) ?_
  refine lv_iload_n C.1 C.2.1 dX4_book_1 rfl (kh_at hl 1 rfl) ?_
  rcases kh_bx_ok hF with ⟨e_3, h_3, hF⟩ | ⟨r_3, h_3, hF⟩
  · refine kh_xcallX (vx_runV (As := [.int x1]) (rest := []) ⟨C.1, C.2.1, C.2.2.1, C.2.2.2.1, C.2.2.2.2.1⟩ (c_X4_roomNumbered l hlt D ca A ad ρ x1 h_3) (cwV 1 C.2.2.2.2.1 gX4_book_X4_roomNumbered rfl rfl rfl (by decide +kernel) ⟨Nat.le_of_ble_eq_true rfl, Nat.le_of_ble_eq_true rfl⟩) (kh_preVJ C hT hw hS 0 (kh_z0 ρ) kh_kd0 rfl) rfl rfl hl.1.1 rfl (lv_room (kh_sum kh_an (Nat.le_of_ble_eq_true rfl))) dX4_book_2 ⟨Nat.le_of_ble_eq_true rfl, Nat.le_of_ble_eq_true rfl⟩) hS (kh_pl h_3) (kh_notYq (kh_pl h_3)) (fun H locs ce q9 hw hS h7 h8 h9 => ?_)
    exact kh_out hout hlocks h7 h8 h9 hw hS (hF0.trans hF.symm) (Nat.le_of_ble_eq_true rfl) (Nat.le_of_ble_eq_true rfl)
  refine kh_xcallq (vx_runV (As := [.int x1]) (rest := []) ⟨C.1, C.2.1, C.2.2.1, C.2.2.2.1, C.2.2.2.2.1⟩ (c_X4_roomNumbered l hlt D ca A ad ρ x1 h_3) (cwV 1 C.2.2.2.2.1 gX4_book_X4_roomNumbered rfl rfl rfl (by decide +kernel) ⟨Nat.le_of_ble_eq_true rfl, Nat.le_of_ble_eq_true rfl⟩) (kh_preVJ C hT hw hS 0 (kh_z0 ρ) kh_kd0 rfl) rfl rfl hl.1.1 rfl (lv_room (kh_sum kh_an (Nat.le_of_ble_eq_true rfl))) dX4_book_2 ⟨Nat.le_of_ble_eq_true rfl, Nat.le_of_ble_eq_true rfl⟩) hS (kh_pr h_3) (fun H locs hw hS => ?_)
  refine kh_astore_n (lv' := [(3, va_rf (kh_rc ad 6 r_3)), (0, .ref (ad 0 0)), (1, .int x1), (2, .int x2)]) C.1 C.2.1 dX4_book_5 rfl hl (by decide) rfl (fun ls hl => ?_)
  refine lv_iload_n C.1 C.2.1 dX4_book_6 rfl (kh_at hl 3 rfl) ?_
  refine lv_aload_n C.1 C.2.1 dX4_book_7 rfl (kh_at hl 1 rfl) ?_
  refine kh_get C hw 0 8 rfl (kh_z0 ρ) kh_kd0 (Cn := RX4) (T := TX4) (N := 10) rfl (Nat.le_of_ble_eq_true rfl) k_231 (kf_0_8 ad ρ 0) dX4_book_8 ?_
  refine lv_icmp_lt (tgt := 21) C.1 C.2.1 dX4_book_11 (by decide) (fun c_4 => ?_) (fun c_4 => ?_)
  · have hF := kh_ift hF c_4
    exact wL21  _ _ _ hF hw hS (kh_sub hl [] rfl)
  · have hF := kh_iff hF c_4
    refine lv_iload_n C.1 C.2.1 dX4_book_14 rfl (kh_at hl 3 rfl) ?_
    refine lv_sipush (v := (4940 : Int32)) C.1 C.2.1 dX4_book_15 (by decide) ?_
    refine lv_icmp_le (tgt := 31) C.1 C.2.1 dX4_book_18 (by decide) (fun c_5 => ?_) (fun c_5 => ?_)
    · have hF := kh_ift hF c_5
      refine lv_aload_n C.1 C.2.1 dX4_book_31 rfl (kh_at hl 1 rfl) ?_
      refine kh_aload_n C.1 C.2.1 dX4_book_32 rfl (kh_at hl 0 rfl) ?_
      refine lv_iload_n C.1 C.2.1 dX4_book_33 rfl (kh_at hl 3 rfl) ?_
      obtain ⟨r_6, h_6, hF⟩ := kh_bd_ok hF
      refine kh_callq (va_runV (As := [va_rf (kh_rc ad 6 r_3), .int x2]) (rest := []) ⟨C.1, C.2.1, C.2.2.1, C.2.2.2.1, C.2.2.2.2.1⟩ (c_X4_bookingTooNear l D ca A ad ρ r_3 x2 h_6) (cwV 2 C.2.2.2.2.1 gX4_book_X4_bookingTooNear rfl rfl rfl (by decide +kernel) ⟨Nat.le_of_ble_eq_true rfl, Nat.le_of_ble_eq_true rfl⟩) (kh_preV C hw hS 0 (kh_z0 ρ) kh_kd0 rfl) rfl rfl hl.1.1 rfl (lv_room (kh_sum kh_an (Nat.le_of_ble_eq_true rfl))) dX4_book_34 ⟨Nat.le_of_ble_eq_true rfl, Nat.le_of_ble_eq_true rfl⟩) hS (kh_mp h_6) (fun H locs hw hS => ?_)
      refine kh_ifnull (tgt := 50) C.1 C.2.1 dX4_book_37 (by decide) (fun c_7 => ?_) (fun c_7 => ?_)
      · have hF := kh_ift hF c_7
        refine lv_aload_n C.1 C.2.1 dX4_book_50 rfl (kh_at hl 1 rfl) ?_
        refine kh_get C hw 0 5 rfl (kh_z0 ρ) kh_kd0 (Cn := RX4) (T := TX4) (N := 10) rfl (Nat.le_of_ble_eq_true rfl) k_240 (kf_0_5 ad ρ 0) dX4_book_51 ?_
        refine lv_bipush (v := (30 : Int32)) C.1 C.2.1 dX4_book_54 (by decide) ?_
        refine lv_icmp_lt (tgt := 69) C.1 C.2.1 dX4_book_56 (by decide) (fun c_8 => ?_) (fun c_8 => ?_)
        · have hF := kh_ift hF c_8
          refine lv_aload_n C.1 C.2.1 dX4_book_69 rfl (kh_at hl 1 rfl) ?_
          refine kh_get C hw 0 5 rfl (kh_z0 ρ) kh_kd0 (Cn := RX4) (T := TX4) (N := 10) rfl (Nat.le_of_ble_eq_true rfl) k_240 (kf_0_5 ad ρ 0) dX4_book_70 ?_
          refine kh_istore (lv' := [(4, .int (ρ 0 5 0 0)), (3, va_rf (kh_rc ad 6 r_3)), (0, .ref (ad 0 0)), (1, .int x1), (2, .int x2)]) C.1 C.2.1 dX4_book_73 hl (by decide) rfl (fun ls hl => ?_)
          refine lv_aload_n C.1 C.2.1 dX4_book_75 rfl (kh_at hl 2 rfl) ?_
          refine kh_get C hw 0 4 rfl (kh_z0 ρ) kh_kd0 (Cn := RX4) (T := TX4) (N := 10) rfl (Nat.le_of_ble_eq_true rfl) k_23 (kf_0_4 ad ρ 0) dX4_book_76 ?_
          refine lv_iload C.1 C.2.1 dX4_book_79 (kh_at hl 0 rfl) ?_
          obtain ⟨hok, hF⟩ := kh_gp_ok hF
          obtain ⟨g_10, hF⟩ := kh_gd_ok hF
          refine kh_new2 (ci := 0) (N := 4) (Cn := RX0) (T := TX0) (fs := [.null, .int 0, .int 0, .int 0]) C hw hS rfl tyX0 tyX0_ok (fun j hj => by rcases (show j = 0 ∨ j = 1 ∨ j = 2 ∨ j = 3 by omega) with rfl | rfl | rfl | rfl <;> rfl) (C.2.2.2.2.1 (.classLink RX4 21 RX0) (by decide +kernel)) (C.2.2.2.2.1 (.instantiable RX0 4) (by decide +kernel)) (C.2.2.2.2.1 (.initialized RX0) (by decide +kernel)) (Nat.le_of_ble_eq_true rfl) (Nat.le_of_ble_eq_true rfl) dX4_book_81 (fun q_9 H hw hqw hqz hA0 hPq hS => ?_)
          refine lv_dup C.1 C.2.1 dX4_book_84 rfl ?_
          refine kh_aload_n C.1 C.2.1 dX4_book_85 rfl (kh_at hl 1 rfl) ?_
          refine lv_iload_n C.1 C.2.1 dX4_book_86 rfl (kh_at hl 4 rfl) ?_
          have hAx : ∀ z : Nat, H.size ≤ z → A z := fun z h => C.2.2.2.2.2.2 z (Nat.le_trans hS.1 h)
          have hfr : ∀ z : Nat, va_A (kh_bX0_init q_9) H.size z → A z := fun z h => (kh_aA rfl h).elim (fun e => by rw [e]; exact hA0) (hAx z)
          refine va_callv (va_runI (As := [va_rf (kh_rc ad 6 r_3), .int x2]) (rest := [.ref q_9, .int (ρ 0 5 0 0), .ref (ad 3 0)]) ⟨C.1, C.2.1, C.2.2.1, C.2.2.2.1, C.2.2.2.2.1⟩ (c_X0_init l D ca q_9 H.size (kh_rc ad 6 r_3) x2) (cwI 2 C.2.2.2.2.1 gX4_book_X0_init rfl rfl rfl (C.2.2.2.2.1 (.initialized RX0) (by decide +kernel)) (C.2.2.2.2.1 (.methodLink RX4 245 yX0_init) (by decide +kernel)) (C.2.2.2.2.1 (.instanceMethod yX0_init) (by decide +kernel)) rfl (by decide +kernel) ⟨Nat.le_of_ble_eq_true rfl, Nat.le_of_ble_eq_true rfl⟩) ⟨kh_blindL, fun U hU hW => ⟨rfl, kh_K.moved hW C.2.2.2.2.2.1, by rw [hU], by rw [hU]; exact hPq, kh_D1⟩⟩ rfl rfl hl.1.1 rfl (lv_room (kh_sum (kh_ac rfl (kh_ac rfl (kh_ac rfl kh_an))) (Nat.le_of_ble_eq_true rfl))) dX4_book_87 ⟨Nat.le_of_ble_eq_true rfl, Nat.le_of_ble_eq_true rfl⟩) hS (fun z _ h => hfr z h) hfr (fun u t H locs ht hvm _ hB _ hk hS => ?_)
          obtain ⟨hPn, hDn⟩ := hB
          rw [ht] at hPn
          obtain ⟨hw, hag⟩ := kh_growB hw hok g_10 hqw hA0 hAx hk hPn hDn
          refine W.widen (k := 2) (n := 12) (Nat.le_of_ble_eq_true rfl) (Nat.le_of_ble_eq_true rfl) ?_
          have hl := kh_sub (l' := [(0, .ref (ad 0 0)), (4, .int (ρ 0 5 0 0))]) hl [2, 0] rfl
          rw [show ad 0 0 = (kh_adB ad (kh_n ρ 14) q_9) 0 0 from (hag 0 0 (kh_z0 ρ)).symm] at hl
          rw [show Value.ref q_9 = va_rf (kh_rc (kh_adB ad (kh_n ρ 14) q_9) 14 (ρ 61 2 0 0)) from kh_newref g_10 kh_adB14, show ad 3 0 = (kh_adB ad (kh_n ρ 14) q_9) 3 0 from (hag 3 0 (kh_z3 ρ)).symm]
          exact wL90 _ (kh_mkB ρ r_3 x2) (ρ 0 5 0 0) (ρ 0 5 0 0) (ρ 61 2 0 0) _ _ _ hF hag hw hS hl
        · have hF := kh_iff hF c_8
          exact kh_throw C hlt hT hw hS hl.1.1 hout hlocks (ik := 53) (is := 243) (ic := 57) (text := "there were 30 bookings") hT.2.2.2.2.1 (by decide +kernel) (by decide +kernel) kh_hg2 kh_hb2 (C.2.2.2.2.1 (.classLink RX4 53 kh_E2) (by decide +kernel)) (C.2.2.2.2.1 (.initialized kh_E2) (by decide +kernel)) dX4_book_59 dX4_book_62 dX4_book_63 dX4_book_65 dX4_book_68 (hF0.trans hF.symm) ⟨Nat.le_of_ble_eq_true rfl, Nat.le_of_ble_eq_true rfl, Nat.le_of_ble_eq_true rfl, Nat.le_of_ble_eq_true rfl⟩ ⟨Nat.le_of_ble_eq_true rfl, Nat.le_of_ble_eq_true rfl⟩
      · have hF := kh_iff hF c_7
        exact kh_throw C hlt hT hw hS hl.1.1 hout hlocks (ik := 53) (is := 140) (ic := 57) (text := "a booking is too nea\x72") hT.2.2.2.2.1 (by decide +kernel) (by decide +kernel) kh_hg2 kh_hb2 (C.2.2.2.2.1 (.classLink RX4 53 kh_E2) (by decide +kernel)) (C.2.2.2.2.1 (.initialized kh_E2) (by decide +kernel)) dX4_book_40 dX4_book_43 dX4_book_44 dX4_book_46 dX4_book_49 (hF0.trans hF.symm) ⟨Nat.le_of_ble_eq_true rfl, Nat.le_of_ble_eq_true rfl, Nat.le_of_ble_eq_true rfl, Nat.le_of_ble_eq_true rfl⟩ ⟨Nat.le_of_ble_eq_true rfl, Nat.le_of_ble_eq_true rfl⟩
    · have hF := kh_iff hF c_5
      exact wL21  _ _ _ hF hw hS (kh_sub hl [] rfl)

noncomputable def f_X4_letIn_L82 (ρ : kh_S) (ρ_82 : kh_S) (x3_82 : Int32) (x5_82 : Int32) : Option (Int32 × kh_S) := kh_bd (f_X4_leaveIfOut ρ_82 x5_82) (fun ρ_1 => some (x3_82, ρ_1))
noncomputable def f_X4_letIn_L37 (ρ : kh_S) (ρ_37 : kh_S) (x1_37 : Int32) (x2_37 : Int32) (x3_37 : Int32) (t0_37 : Int32) : Option (Int32 × kh_S) := kh_gd (kh_in x3_37 30) (kh_gd (kh_in t0_37 (kh_n ρ_37 11)) (kh_gd (kh_in x1_37 (kh_n (kh_up (kh_up ρ_37 2 0 0 x3_37.toNatClampNeg t0_37) 0 3 0 0 (((kh_up ρ_37 2 0 0 x3_37.toNatClampNeg t0_37) 0 3 0 0) + (1 : Int32))) 6)) (if x2_37 < 0 then f_X4_letIn_L82 ρ (kh_up (kh_up (kh_up (kh_up ρ_37 2 0 0 x3_37.toNatClampNeg t0_37) 0 3 0 0 (((kh_up ρ_37 2 0 0 x3_37.toNatClampNeg t0_37) 0 3 0 0) + (1 : Int32))) 6 8 x1_37.toNatClampNeg 0 (1 : Int32)) 6 12 x1_37.toNatClampNeg 0 t0_37) x3_37 t0_37 else kh_gd (kh_in x2_37 (kh_n (kh_up (kh_up (kh_up (kh_up ρ_37 2 0 0 x3_37.toNatClampNeg t0_37) 0 3 0 0 (((kh_up ρ_37 2 0 0 x3_37.toNatClampNeg t0_37) 0 3 0 0) + (1 : Int32))) 6 8 x1_37.toNatClampNeg 0 (1 : Int32)) 6 12 x1_37.toNatClampNeg 0 t0_37) 14)) (f_X4_letIn_L82 ρ (kh_up (kh_up (kh_up (kh_up (kh_up (kh_up ρ_37 2 0 0 x3_37.toNatClampNeg t0_37) 0 3 0 0 (((kh_up ρ_37 2 0 0 x3_37.toNatClampNeg t0_37) 0 3 0 0) + (1 : Int32))) 6 8 x1_37.toNatClampNeg 0 (1 : Int32)) 6 12 x1_37.toNatClampNeg 0 t0_37) 14 2 x2_37.toNatClampNeg 0 (1 : Int32)) 14 3 x2_37.toNatClampNeg 0 x3_37) x3_37 t0_37))))
noncomputable def f_X4_letIn (ρ : kh_S) (x1 : Int32) (x2 : Int32) : Option (Int32 × kh_S) := kh_gd (kh_in x1 (kh_n ρ 6)) (kh_gp (kh_ok ρ) (kh_gd (kh_in (ρ 61 1 0 0) 1000) (kh_gd (kh_in x1 (kh_n ρ 6)) (kh_gd (decide (x2 < 0) || kh_in x2 (kh_n ρ 14)) (kh_bd (f_X2_givenBy ρ x1.toNatClampNeg (ρ 6 10 x1.toNatClampNeg 0)) (fun r_18 => f_X4_letIn_L37 ρ (kh_mkG ρ (ρ 0 3 0 0) x1 (ρ 0 8 0 0) (ρ 6 10 x1.toNatClampNeg 0) ((ρ 6 1 x1.toNatClampNeg 0) ||| r_18)) x1 x2 (ρ 0 3 0 0) (ρ 61 1 0 0)))))))
set_option maxHeartbeats 4000000 in
set_option maxRecDepth 100000 in
theorem c_X4_letIn (l : Launch) (D : va_G) (ca : Nat → ClassId) (A : Nat → Prop) (ad : Nat → Nat → Nat) (ρ : kh_S) (x1 : Int32) (x2 : Int32) {q0 : Int32 × kh_S} (hF0 : f_X4_letIn ρ x1 x2 = some q0) : Met l yX4_letIn wsX4_letIn ({ frames := 2, cells := 2, slots := 17, locals := 44 } : Room) (va_Pc [.ref (ad 0 0), va_rf (kh_rc ad 6 x1), va_rf (kh_rc ad 14 x2)] (kh_I D ca A ad ρ)) (kh_QiN D ca A ad ρ (f_X4_letIn ρ x1 x2)) 2 17 A := by
  refine Met.ofW (cc := cX4_letIn) (maxL := 6) (ret := (some .int)) (by decide) rfl ?_
  intro p e s m args below meth c s₁ B hml hv
  obtain ⟨rfl, hK, hw, hA⟩ := hv
  have C : kh_C p s m ([.ref (ad 0 0), va_rf (kh_rc ad 6 x1), va_rf (kh_rc ad 14 x2)]).toArray c cX4_letIn 6 RX4 wsX4_letIn D ca A := ⟨B.exec, B.bytes, hml, findClass_of_methodNamed B.named, atoms_spec (ws := wsX4_letIn) B.pre, hK, hA⟩
  have hr := B.returns
  have hlocks := B.notSynchronized
  have hS : va_S A s.heap s.heap [] := va_S.rf
  have hl := kh_entry ([.ref (ad 0 0), va_rf (kh_rc ad 6 x1), va_rf (kh_rc ad 14 x2)]) (n := 6) (kh_ac rfl (kh_ac (kh_c1 _) (kh_ac (kh_c1 _) kh_an))) (Nat.le_of_ble_eq_true rfl)
  rw [lg_entry_eq]
  generalize (lg_sl ([.ref (ad 0 0), va_rf (kh_rc ad 6 x1), va_rf (kh_rc ad 14 x2)]) ++ List.replicate (6 - (lg_sl ([.ref (ad 0 0), va_rf (kh_rc ad 6 x1), va_rf (kh_rc ad 14 x2)])).length) Slot.unset).toArray = ls at hl ⊢
  have hl : kh_lv ls 6 [(0, .ref (ad 0 0)), (1, va_rf (kh_rc ad 6 x1)), (2, va_rf (kh_rc ad 14 x2))] := hl
  have k_17 := C.2.2.2.2.1 (.fieldLink RX4 17 "KeylessHall" "groups" "[LKeylessHall$Group;") (by decide +kernel)
  have k_142 := C.2.2.2.2.1 (.fieldLink RX4 142 "KeylessHall" "groupCount" "I") (by decide +kernel)
  have k_77 := C.2.2.2.2.1 (.fieldLink RX4 77 "KeylessHall$Room" "how" "I") (by decide +kernel)
  have k_273 := C.2.2.2.2.1 (.fieldLink RX4 273 "KeylessHall$Room" "players" "LKeylessHall$Group;") (by decide +kernel)
  have k_252 := C.2.2.2.2.1 (.fieldLink RX4 252 "KeylessHall$Booking" "how" "I") (by decide +kernel)
  have k_302 := C.2.2.2.2.1 (.fieldLink RX4 302 "KeylessHall$Booking" "groupNumber" "I") (by decide +kernel)
  have k_212 := C.2.2.2.2.1 (.fieldLink RX4 212 "KeylessHall$Room" "forgotten" "I") (by decide +kernel)
  have k_231 := C.2.2.2.2.1 (.fieldLink RX4 231 "KeylessHall" "now" "I") (by decide +kernel)
  have k_120 := C.2.2.2.2.1 (.fieldLink RX4 120 "KeylessHall$Room" "things" "I") (by decide +kernel)
  have hF := hF0
  unfold f_X4_letIn at hF
  have wL82 : ∀ (ad2 : Nat → Nat → Nat) (ρ_82 : kh_S) (x3_82 : Int32) (x5_82 : Int32) (H : Heap) (locs : List Loc) (ls : Array Slot), f_X4_letIn_L82 ρ ρ_82 x3_82 x5_82 = some q0 → kh_ag ad ad2 ρ → kh_w D ca A ad2 ρ_82 H → va_S A s.heap H locs → kh_lv ls 6 [(3, .int x3_82), (5, va_rf (kh_rc ad2 11 x5_82))] → W p l e (headSpec wsX4_letIn ({ frames := 2, cells := 2, slots := 17, locals := 44 } : Room)).room s m ([.ref (ad 0 0), va_rf (kh_rc ad 6 x1), va_rf (kh_rc ad 14 x2)]).toArray below meth c H locs 2 17 (MQ below (kh_QiN D ca A ad ρ (f_X4_letIn ρ x1 x2)) ([.ref (ad 0 0), va_rf (kh_rc ad 6 x1), va_rf (kh_rc ad 14 x2)]).toArray s 2 17 A) (F0 m 82 ls []) := by
    intro ad2 ρ_82 x3_82 x5_82 H locs ls hF hag hw hS hl
    unfold f_X4_letIn_L82 at hF
    refine kh_aload C.1 C.2.1 dX4_letIn_82 (kh_at hl 1 rfl) ?_
    obtain ⟨ρ_1, h_1, hF⟩ := kh_bd_ok hF
    refine kh_callv (va_runS (As := [va_rf (kh_rc ad2 11 x5_82)]) (rest := []) ⟨C.1, C.2.1, C.2.2.1, C.2.2.2.1, C.2.2.2.2.1⟩ (c_X4_leaveIfOut l D ca A ad2 ρ_82 x5_82 h_1) (va_cwS 1 C.2.2.2.2.1 gX4_letIn_X4_leaveIfOut rfl rfl rfl (by decide +kernel) ⟨Nat.le_of_ble_eq_true rfl, Nat.le_of_ble_eq_true rfl⟩) (kh_preS C hw hS) rfl rfl hl.1.1 rfl (lv_room (kh_sum kh_an (Nat.le_of_ble_eq_true rfl))) dX4_letIn_84 ⟨Nat.le_of_ble_eq_true rfl, Nat.le_of_ble_eq_true rfl⟩) hS h_1 (fun H locs hw hS => ?_)
    refine lv_iload_n C.1 C.2.1 dX4_letIn_87 rfl (kh_at hl 0 rfl) ?_
    exact W.iret (v := x3_82) C.1 C.2.1 hr (fun t ht hW => ⟨⟨x3_82, (ad2, ρ_1), rfl, ⟨hF0.trans hF.symm, hag⟩, kh_bk ht hw⟩, hS.F ht⟩) hS.2.2 dX4_letIn_88
  have wL37 : ∀ (ad2 : Nat → Nat → Nat) (ρ_37 : kh_S) (x1_37 : Int32) (x2_37 : Int32) (x3_37 : Int32) (t0_37 : Int32) (H : Heap) (locs : List Loc) (ls : Array Slot), f_X4_letIn_L37 ρ ρ_37 x1_37 x2_37 x3_37 t0_37 = some q0 → kh_ag ad ad2 ρ → kh_w D ca A ad2 ρ_37 H → va_S A s.heap H locs → kh_lv ls 6 [(0, .ref (ad2 0 0)), (1, va_rf (kh_rc ad2 6 x1_37)), (2, va_rf (kh_rc ad2 14 x2_37)), (3, .int x3_37)] → W p l e (headSpec wsX4_letIn ({ frames := 2, cells := 2, slots := 17, locals := 44 } : Room)).room s m ([.ref (ad 0 0), va_rf (kh_rc ad 6 x1), va_rf (kh_rc ad 14 x2)]).toArray below meth c H locs 2 17 (MQ below (kh_QiN D ca A ad ρ (f_X4_letIn ρ x1 x2)) ([.ref (ad 0 0), va_rf (kh_rc ad 6 x1), va_rf (kh_rc ad 14 x2)]).toArray s 2 17 A) (F0 m 37 ls [va_rf (kh_rc ad2 11 t0_37)]) := by
    intro ad2 ρ_37 x1_37 x2_37 x3_37 t0_37 H locs ls hF hag hw hS hl
    unfold f_X4_letIn_L37 at hF
    refine kh_astore (lv' := [(5, va_rf (kh_rc ad2 11 t0_37)), (0, .ref (ad2 0 0)), (1, va_rf (kh_rc ad2 6 x1_37)), (2, va_rf (kh_rc ad2 14 x2_37)), (3, .int x3_37)]) C.1 C.2.1 dX4_letIn_37 hl (by decide) rfl (fun ls hl => ?_)
    refine lv_aload_n C.1 C.2.1 dX4_letIn_39 rfl (kh_at hl 1 rfl) ?_
    refine kh_get C hw 0 2 rfl (kh_z0 ρ_37) kh_kd0 (Cn := RX4) (T := TX4) (N := 10) rfl (Nat.le_of_ble_eq_true rfl) k_17 (kf_0_2 ad2 ρ_37 0) dX4_letIn_40 ?_
    refine lv_iload_n C.1 C.2.1 dX4_letIn_43 rfl (kh_at hl 4 rfl) ?_
    refine kh_aload C.1 C.2.1 dX4_letIn_44 (kh_at hl 0 rfl) ?_
    obtain ⟨g_2, hF⟩ := kh_gd_ok hF
    obtain ⟨g_3, hF⟩ := kh_gd_ok hF
    refine kh_aast C hw hS 2 11 (N := 9) (T := TX1) rfl (kh_z2 ρ_37) (by decide) kh_kd2 kh_ty2 kh_kd11 rfl g_2 rfl g_3 dX4_letIn_46 (fun H locs hw hS => ?_)
    refine lv_aload_n C.1 C.2.1 dX4_letIn_47 rfl (kh_at hl 1 rfl) ?_
    refine lv_dup C.1 C.2.1 dX4_letIn_48 rfl ?_
    refine kh_get C hw 0 3 rfl (kh_z0 (kh_up ρ_37 2 0 0 x3_37.toNatClampNeg t0_37)) kh_kd0 (Cn := RX4) (T := TX4) (N := 10) rfl (Nat.le_of_ble_eq_true rfl) k_142 (kf_0_3 ad2 (kh_up ρ_37 2 0 0 x3_37.toNatClampNeg t0_37) 0) dX4_letIn_49 ?_
    refine lv_iconst (v := (1 : Int32)) C.1 C.2.1 dX4_letIn_52 (by decide) ?_
    refine lv_iadd C.1 C.2.1 dX4_letIn_53 ?_
    refine kh_putI C hw hS 0 3 rfl (kh_z0 (kh_up ρ_37 2 0 0 x3_37.toNatClampNeg t0_37)) kh_kd0 (by decide) (Cn := RX4) (T := TX4) (N := 10) rfl (Nat.le_of_ble_eq_true rfl) (kq_0_3) k_142 rfl (by decide +kernel) dX4_letIn_54 (fun H locs hw hS => ?_)
    refine kh_aload_n C.1 C.2.1 dX4_letIn_57 rfl (kh_at hl 2 rfl) ?_
    refine lv_iconst (v := (1 : Int32)) C.1 C.2.1 dX4_letIn_58 (by decide) ?_
    obtain ⟨g_4, hF⟩ := kh_gd_ok hF
    have v_5 := kh_in_lt g_4
    have r_6 := kh_rf (ad := ad2) (k := 6) g_4
    refine kh_putI C hw hS 6 8 r_6 v_5 kh_kd6 (by decide) (Cn := RX2) (T := TX2) (N := 13) rfl (Nat.le_of_ble_eq_true rfl) (kq_6_8) k_77 rfl (by decide +kernel) dX4_letIn_59 (fun H locs hw hS => ?_)
    refine kh_aload_n C.1 C.2.1 dX4_letIn_62 rfl (kh_at hl 2 rfl) ?_
    refine kh_aload C.1 C.2.1 dX4_letIn_63 (kh_at hl 0 rfl) ?_
    refine kh_putR C hw hS 6 12 11 (x := t0_37) (C2 := "KeylessHall$Group") r_6 (kh_lu v_5) kh_kd6 (by decide) (Cn := RX2) (T := TX2) (N := 13) rfl (Nat.le_of_ble_eq_true rfl) (kq_6_12) k_273 rfl (by decide +kernel) rfl dX4_letIn_65 (fun H locs hw hS => ?_)
    refine kh_aload_n C.1 C.2.1 dX4_letIn_68 rfl (kh_at hl 3 rfl) ?_
    refine kh_ifnull (tgt := 82) C.1 C.2.1 dX4_letIn_69 (by decide) (fun c_7 => ?_) (fun c_7 => ?_)
    · have hF := kh_ift hF c_7
      exact wL82 ad2 (kh_up (kh_up (kh_up (kh_up ρ_37 2 0 0 x3_37.toNatClampNeg t0_37) 0 3 0 0 (((kh_up ρ_37 2 0 0 x3_37.toNatClampNeg t0_37) 0 3 0 0) + (1 : Int32))) 6 8 x1_37.toNatClampNeg 0 (1 : Int32)) 6 12 x1_37.toNatClampNeg 0 t0_37) x3_37 t0_37 _ _ _ hF hag hw hS (kh_sub hl [4, 0] rfl)
    · have hF := kh_iff hF c_7
      refine kh_aload_n C.1 C.2.1 dX4_letIn_72 rfl (kh_at hl 3 rfl) ?_
      refine lv_iconst (v := (1 : Int32)) C.1 C.2.1 dX4_letIn_73 (by decide) ?_
      obtain ⟨g_8, hF⟩ := kh_gd_ok hF
      have v_9 := kh_in_lt g_8
      have r_10 := kh_rf (ad := ad2) (k := 14) g_8
      refine kh_putI C hw hS 14 2 r_10 v_9 kh_kd14 (by decide) (Cn := RX0) (T := TX0) (N := 4) rfl (Nat.le_of_ble_eq_true rfl) (kq_14_2) k_252 rfl (by decide +kernel) dX4_letIn_74 (fun H locs hw hS => ?_)
      refine kh_aload_n C.1 C.2.1 dX4_letIn_77 rfl (kh_at hl 3 rfl) ?_
      refine lv_iload_n C.1 C.2.1 dX4_letIn_78 rfl (kh_at hl 4 rfl) ?_
      refine kh_putI C hw hS 14 3 r_10 (kh_lu v_9) kh_kd14 (by decide) (Cn := RX0) (T := TX0) (N := 4) rfl (Nat.le_of_ble_eq_true rfl) (kq_14_3) k_302 rfl (by decide +kernel) dX4_letIn_79 (fun H locs hw hS => ?_)
      exact wL82 ad2 (kh_up (kh_up (kh_up (kh_up (kh_up (kh_up ρ_37 2 0 0 x3_37.toNatClampNeg t0_37) 0 3 0 0 (((kh_up ρ_37 2 0 0 x3_37.toNatClampNeg t0_37) 0 3 0 0) + (1 : Int32))) 6 8 x1_37.toNatClampNeg 0 (1 : Int32)) 6 12 x1_37.toNatClampNeg 0 t0_37) 14 2 x2_37.toNatClampNeg 0 (1 : Int32)) 14 3 x2_37.toNatClampNeg 0 x3_37) x3_37 t0_37 _ _ _ hF hag hw hS (kh_sub hl [4, 0] rfl)
  refine lv_aload_n C.1 C.2.1 dX4_letIn_0 rfl (kh_at hl 0 rfl) ?_
  refine kh_get C hw 0 3 rfl (kh_z0 ρ) kh_kd0 (Cn := RX4) (T := TX4) (N := 10) rfl (Nat.le_of_ble_eq_true rfl) k_142 (kf_0_3 ad ρ 0) dX4_letIn_1 ?_
  refine kh_istore_n (lv' := [(3, .int (ρ 0 3 0 0)), (0, .ref (ad 0 0)), (1, va_rf (kh_rc ad 6 x1)), (2, va_rf (kh_rc ad 14 x2))]) C.1 C.2.1 dX4_letIn_4 rfl hl (by decide) rfl (fun ls hl => ?_)
  refine kh_aload_n C.1 C.2.1 dX4_letIn_5 rfl (kh_at hl 2 rfl) ?_
  obtain ⟨g_11, hF⟩ := kh_gd_ok hF
  have v_12 := kh_in_lt g_11
  have r_13 := kh_rf (ad := ad) (k := 6) g_11
  refine kh_get C hw 6 10 r_13 v_12 kh_kd6 (Cn := RX2) (T := TX2) (N := 13) rfl (Nat.le_of_ble_eq_true rfl) k_212 (kf_6_10 ad ρ x1.toNatClampNeg) dX4_letIn_6 ?_
  refine kh_istore (lv' := [(4, .int (ρ 6 10 x1.toNatClampNeg 0)), (3, .int (ρ 0 3 0 0)), (0, .ref (ad 0 0)), (1, va_rf (kh_rc ad 6 x1)), (2, va_rf (kh_rc ad 14 x2))]) C.1 C.2.1 dX4_letIn_9 hl (by decide) rfl (fun ls hl => ?_)
  obtain ⟨hok, hF⟩ := kh_gp_ok hF
  obtain ⟨g_15, hF⟩ := kh_gd_ok hF
  obtain ⟨g_16, hF⟩ := kh_gd_ok hF
  obtain ⟨g_17, hF⟩ := kh_gd_ok hF
  refine kh_new2 (ci := 1) (N := 9) (Cn := RX1) (T := TX1) (fs := [.int 0, .null, .int 0, .null, .int 0, .int 0, .int 0, .int 0, .int 0]) C hw hS rfl tyX1 tyX1_ok (fun j hj => by rcases (show j = 0 ∨ j = 1 ∨ j = 2 ∨ j = 3 ∨ j = 4 ∨ j = 5 ∨ j = 6 ∨ j = 7 ∨ j = 8 by omega) with rfl | rfl | rfl | rfl | rfl | rfl | rfl | rfl | rfl <;> rfl) (C.2.2.2.2.1 (.classLink RX4 15 RX1) (by decide +kernel)) (C.2.2.2.2.1 (.instantiable RX1 9) (by decide +kernel)) (C.2.2.2.2.1 (.initialized RX1) (by decide +kernel)) (Nat.le_of_ble_eq_true rfl) (Nat.le_of_ble_eq_true rfl) dX4_letIn_11 (fun q_14 H hw hqw hqz hA0 hPq hS => ?_)
  refine lv_dup C.1 C.2.1 dX4_letIn_14 rfl ?_
  refine lv_iload_n C.1 C.2.1 dX4_letIn_15 rfl (kh_at hl 1 rfl) ?_
  refine kh_aload_n C.1 C.2.1 dX4_letIn_16 rfl (kh_at hl 3 rfl) ?_
  refine lv_aload_n C.1 C.2.1 dX4_letIn_17 rfl (kh_at hl 2 rfl) ?_
  refine kh_get C hw 0 8 rfl (kh_z0 ρ) kh_kd0 (Cn := RX4) (T := TX4) (N := 10) rfl (Nat.le_of_ble_eq_true rfl) k_231 (kf_0_8 ad ρ 0) dX4_letIn_18 ?_
  refine lv_iload C.1 C.2.1 dX4_letIn_21 (kh_at hl 0 rfl) ?_
  refine kh_aload_n C.1 C.2.1 dX4_letIn_23 rfl (kh_at hl 3 rfl) ?_
  refine kh_get C hw 6 1 r_13 v_12 kh_kd6 (Cn := RX2) (T := TX2) (N := 13) rfl (Nat.le_of_ble_eq_true rfl) k_120 (kf_6_1 ad ρ x1.toNatClampNeg) dX4_letIn_24 ?_
  refine kh_aload_n C.1 C.2.1 dX4_letIn_27 rfl (kh_at hl 3 rfl) ?_
  refine lv_iload C.1 C.2.1 dX4_letIn_28 (kh_at hl 0 rfl) ?_
  obtain ⟨r_18, h_18, hF⟩ := kh_bd_ok hF
  refine kh_calliK (va_runV (As := [.int (ρ 6 10 x1.toNatClampNeg 0)]) (rest := [.int (ρ 6 1 x1.toNatClampNeg 0), .int (ρ 6 10 x1.toNatClampNeg 0), .int (ρ 0 8 0 0), va_rf (kh_rc ad 6 x1), .int (ρ 0 3 0 0), .ref q_14, .ref q_14]) ⟨C.1, C.2.1, C.2.2.1, C.2.2.2.1, C.2.2.2.2.1⟩ (c_X2_givenBy l D ca (fun x => A x ∧ x ≠ q_14) ad ρ x1.toNatClampNeg (ρ 6 10 x1.toNatClampNeg 0) h_18) (cwV 1 C.2.2.2.2.1 gX4_letIn_X2_givenBy rfl rfl rfl (by decide +kernel) ⟨Nat.le_of_ble_eq_true rfl, Nat.le_of_ble_eq_true rfl⟩) (kh_preVK C hw hS hqz hqw 6 v_12 kh_kd6 rfl) rfl rfl hl.1.1 (by show _ = _; rw [r_13]; rfl) (lv_room (kh_sum (kh_ac rfl (kh_ac rfl (kh_ac rfl (kh_ac (kh_c1 _) (kh_ac rfl (kh_ac rfl (kh_ac rfl kh_an))))))) (Nat.le_of_ble_eq_true rfl))) dX4_letIn_30 ⟨Nat.le_of_ble_eq_true rfl, Nat.le_of_ble_eq_true rfl⟩) hS hqz hPq (kh_mp h_18) (fun H locs hw hqz hPq hS => ?_)
  refine lv_ior C.1 C.2.1 dX4_letIn_33 ?_
  have hAx : ∀ z : Nat, H.size ≤ z → A z := fun z h => C.2.2.2.2.2.2 z (Nat.le_trans hS.1 h)
  have hfr : ∀ z : Nat, va_A (kh_bX1_init q_14) H.size z → A z := fun z h => (kh_aA rfl h).elim (fun e => by rw [e]; exact hA0) (hAx z)
  refine va_callv (va_runI (As := [.int (ρ 0 3 0 0), va_rf (kh_rc ad 6 x1), .int (ρ 0 8 0 0), .int (ρ 6 10 x1.toNatClampNeg 0), .int ((ρ 6 1 x1.toNatClampNeg 0) ||| r_18)]) (rest := [.ref q_14]) ⟨C.1, C.2.1, C.2.2.1, C.2.2.2.1, C.2.2.2.2.1⟩ (c_X1_init l D ca q_14 H.size (ρ 0 3 0 0) (kh_rc ad 6 x1) (ρ 0 8 0 0) (ρ 6 10 x1.toNatClampNeg 0) ((ρ 6 1 x1.toNatClampNeg 0) ||| r_18)) (cwI 5 C.2.2.2.2.1 gX4_letIn_X1_init rfl rfl rfl (C.2.2.2.2.1 (.initialized RX1) (by decide +kernel)) (C.2.2.2.2.1 (.methodLink RX4 330 yX1_init) (by decide +kernel)) (C.2.2.2.2.1 (.instanceMethod yX1_init) (by decide +kernel)) rfl (by decide +kernel) ⟨Nat.le_of_ble_eq_true rfl, Nat.le_of_ble_eq_true rfl⟩) ⟨kh_blindL, fun U hU hW => ⟨rfl, kh_K.moved hW C.2.2.2.2.2.1, by rw [hU], by rw [hU]; exact hPq, kh_D1⟩⟩ rfl rfl hl.1.1 rfl (lv_room (kh_sum (kh_ac rfl kh_an) (Nat.le_of_ble_eq_true rfl))) dX4_letIn_34 ⟨Nat.le_of_ble_eq_true rfl, Nat.le_of_ble_eq_true rfl⟩) hS (fun z _ h => hfr z h) hfr (fun u t H locs ht hvm _ hB _ hk hS => ?_)
  obtain ⟨hPn, hDn⟩ := hB
  rw [ht] at hPn
  obtain ⟨hw, hag⟩ := kh_growG hw hok g_15 hqw hA0 hAx hk hPn hDn
  refine W.widen (k := 2) (n := 17) (Nat.le_of_ble_eq_true rfl) (Nat.le_of_ble_eq_true rfl) ?_
  have hl := kh_sub (l' := [(0, .ref (ad 0 0)), (1, va_rf (kh_rc ad 6 x1)), (2, va_rf (kh_rc ad 14 x2)), (3, .int (ρ 0 3 0 0))]) hl [2, 3, 4, 1] rfl
  rw [show ad 0 0 = (kh_adG ad (kh_n ρ 11) q_14 u) 0 0 from (hag 0 0 (kh_z0 ρ)).symm, kh_agrc hag g_16, kh_agrcN hag g_17] at hl
  rw [show Value.ref q_14 = va_rf (kh_rc (kh_adG ad (kh_n ρ 11) q_14 u) 11 (ρ 61 1 0 0)) from kh_newref g_15 kh_adG11]
  exact wL37 _ (kh_mkG ρ (ρ 0 3 0 0) x1 (ρ 0 8 0 0) (ρ 6 10 x1.toNatClampNeg 0) ((ρ 6 1 x1.toNatClampNeg 0) ||| r_18)) x1 x2 (ρ 0 3 0 0) (ρ 61 1 0 0) _ _ _ hF hag hw hS hl

noncomputable def f_X4_come_L59 (ρ : kh_S) (x2_59 : Int32) (x3_59 : Int32) : Option ((String × kh_S) ⊕ (Int32 × kh_S)) := if (ρ 0 3 0 0) < (30 : Int32) then kh_bd2 (f_X4_letIn ρ x2_59 x3_59) (fun r_2 ρ_2 => some (.inr (r_2, ρ_2))) else some (.inl (kh_E2, ρ))
noncomputable def f_X4_come_L21 (ρ : kh_S) : Option ((String × kh_S) ⊕ (Int32 × kh_S)) := some (.inl (kh_E2, ρ))
noncomputable def f_X4_come (ρ : kh_S) (x1 : Int32) : Option ((String × kh_S) ⊕ (Int32 × kh_S)) := kh_bx (f_X4_roomNumbered ρ x1) (fun e_3 => some (.inl (e_3, ρ))) (fun r_3 => kh_gd (kh_in r_3 (kh_n ρ 6)) (if (ρ 6 8 r_3.toNatClampNeg 0) = 0 then kh_bd (f_X4_hasExit ρ r_3) (fun r_8 => if r_8 = 0 then f_X4_come_L21 ρ else kh_bd (f_X4_bookingDue ρ r_3) (fun r_10 => if r_10 < 0 then kh_bd (f_X4_isKeptForBooking ρ r_3) (fun r_12 => if r_12 = 0 then f_X4_come_L59 ρ r_3 r_10 else some (.inl (kh_E2, ρ))) else f_X4_come_L59 ρ r_3 r_10)) else f_X4_come_L21 ρ))
set_option maxHeartbeats 4000000 in
set_option maxRecDepth 100000 in
theorem c_X4_come (l : Launch) (hlt : l.stackTraces = false) (D : va_G) (ca : Nat → ClassId) (A : Nat → Prop) (ad : Nat → Nat → Nat) (ρ : kh_S) (x1 : Int32) {q0 : (String × kh_S) ⊕ (Int32 × kh_S)} (hF0 : f_X4_come ρ x1 = some q0) : vx_Met l yX4_come wsX4_come ({ frames := 7, cells := 3, slots := 23, locals := 111 } : Room) (va_Pc [.ref (ad 0 0), .int x1] (kh_J D ca A ad ρ)) (kh_YiN D ca A ad ρ (f_X4_come ρ x1)) (kh_X D ca A ad (f_X4_come ρ x1)) 3 23 A := by
  refine vx_ofW (cc := cX4_come) (maxL := 4) (ret := (some .int)) (by decide) rfl ?_
  intro p e s m args below meth c s₁ B hml hout hv
  obtain ⟨rfl, ⟨hK, hw, hA⟩, hT⟩ := hv
  have C : kh_C p s m ([.ref (ad 0 0), .int x1]).toArray c cX4_come 4 RX4 wsX4_come D ca A := ⟨B.exec, B.bytes, hml, findClass_of_methodNamed B.named, atoms_spec (ws := wsX4_come) B.pre, hK, hA⟩
  have hr := B.returns
  have hlocks := B.notSynchronized
  have hS : va_S A s.heap s.heap [] := va_S.rf
  have hl := kh_entry ([.ref (ad 0 0), .int x1]) (n := 4) (kh_ac rfl (kh_ac rfl kh_an)) (Nat.le_of_ble_eq_true rfl)
  rw [lg_entry_eq]
  generalize (lg_sl ([.ref (ad 0 0), .int x1]) ++ List.replicate (4 - (lg_sl ([.ref (ad 0 0), .int x1])).length) Slot.unset).toArray = ls at hl ⊢
  have hl : kh_lv ls 4 [(0, .ref (ad 0 0)), (1, .int x1)] := hl
  have k_142 := C.2.2.2.2.1 (.fieldLink RX4 142 "KeylessHall" "groupCount" "I") (by decide +kernel)
  have k_77 := C.2.2.2.2.1 (.fieldLink RX4 77 "KeylessHall$Room" "how" "I") (by decide +kernel)
  have hF := hF0
  unfold f_X4_come at hF
  have wL59 : ∀ (x2_59 : Int32) (x3_59 : Int32) (H : Heap) (locs : List Loc) (ls : Array Slot), f_X4_come_L59 ρ x2_59 x3_59 = some q0 → kh_w D ca A ad ρ H → va_S A s.heap H locs → kh_lv ls 4 [(0, .ref (ad 0 0)), (2, va_rf (kh_rc ad 6 x2_59)), (3, va_rf (kh_rc ad 14 x3_59))] → W p l e (headSpec wsX4_come ({ frames := 7, cells := 3, slots := 23, locals := 111 } : Room)).room s m ([.ref (ad 0 0), .int x1]).toArray below meth c H locs 1 6 (vx_MQ below (kh_YiN D ca A ad ρ (f_X4_come ρ x1)) (kh_X D ca A ad (f_X4_come ρ x1)) ([.ref (ad 0 0), .int x1]).toArray s 3 23 A) (F0 m 59 ls []) := by
    intro x2_59 x3_59 H locs ls hF hw hS hl
    unfold f_X4_come_L59 at hF
    refine lv_aload_n C.1 C.2.1 dX4_come_59 rfl (kh_at hl 0 rfl) ?_
    refine kh_get C hw 0 3 rfl (kh_z0 ρ) kh_kd0 (Cn := RX4) (T := TX4) (N := 10) rfl (Nat.le_of_ble_eq_true rfl) k_142 (kf_0_3 ad ρ 0) dX4_come_60 ?_
    refine lv_bipush (v := (30 : Int32)) C.1 C.2.1 dX4_come_63 (by decide) ?_
    refine lv_icmp_lt (tgt := 78) C.1 C.2.1 dX4_come_65 (by decide) (fun c_1 => ?_) (fun c_1 => ?_)
    · have hF := kh_ift hF c_1
      refine lv_aload_n C.1 C.2.1 dX4_come_78 rfl (kh_at hl 0 rfl) ?_
      refine kh_aload_n C.1 C.2.1 dX4_come_79 rfl (kh_at hl 1 rfl) ?_
      refine kh_aload_n C.1 C.2.1 dX4_come_80 rfl (kh_at hl 2 rfl) ?_
      obtain ⟨r_2, ρ_2, h_2, hF⟩ := kh_bd2_ok hF
      refine kh_callN (va_runV (As := [va_rf (kh_rc ad 6 x2_59), va_rf (kh_rc ad 14 x3_59)]) (rest := []) ⟨C.1, C.2.1, C.2.2.1, C.2.2.2.1, C.2.2.2.2.1⟩ (c_X4_letIn l D ca A ad ρ x2_59 x3_59 h_2) (cwV 2 C.2.2.2.2.1 gX4_come_X4_letIn rfl rfl rfl (by decide +kernel) ⟨Nat.le_of_ble_eq_true rfl, Nat.le_of_ble_eq_true rfl⟩) (kh_preV C hw hS 0 (kh_z0 ρ) kh_kd0 rfl) rfl rfl hl.1.1 rfl (lv_room (kh_sum kh_an (Nat.le_of_ble_eq_true rfl))) dX4_come_81 ⟨Nat.le_of_ble_eq_true rfl, Nat.le_of_ble_eq_true rfl⟩) hS h_2 (fun ad2 H locs hag hw hS => ?_)
      refine vx_ret (W.widen (k := 3) (n := 23) (Nat.le_of_ble_eq_true rfl) (Nat.le_of_ble_eq_true rfl) ?_)
      exact W.iret (v := r_2) C.1 C.2.1 hr (fun t ht hW => ⟨⟨r_2, (ad2, ρ_2), rfl, ⟨hF0.trans hF.symm, hag⟩, kh_bk ht hw⟩, hS.F ht⟩) hS.2.2 dX4_come_84
    · have hF := kh_iff hF c_1
      exact kh_throw C hlt hT hw hS hl.1.1 hout hlocks (ik := 53) (is := 145) (ic := 57) (text := "there were 30 groups") hT.2.2.2.2.1 (by decide +kernel) (by decide +kernel) kh_hg2 kh_hb2 (C.2.2.2.2.1 (.classLink RX4 53 kh_E2) (by decide +kernel)) (C.2.2.2.2.1 (.initialized kh_E2) (by decide +kernel)) dX4_come_68 dX4_come_71 dX4_come_72 dX4_come_74 dX4_come_77 (hF0.trans hF.symm) ⟨Nat.le_of_ble_eq_true rfl, Nat.le_of_ble_eq_true rfl, Nat.le_of_ble_eq_true rfl, Nat.le_of_ble_eq_true rfl⟩ ⟨Nat.le_of_ble_eq_true rfl, Nat.le_of_ble_eq_true rfl⟩
  have wL21 : ∀ (H : Heap) (locs : List Loc) (ls : Array Slot), f_X4_come_L21 ρ = some q0 → kh_w D ca A ad ρ H → va_S A s.heap H locs → kh_lv ls 4 [] → W p l e (headSpec wsX4_come ({ frames := 7, cells := 3, slots := 23, locals := 111 } : Room)).room s m ([.ref (ad 0 0), .int x1]).toArray below meth c H locs 1 6 (vx_MQ below (kh_YiN D ca A ad ρ (f_X4_come ρ x1)) (kh_X D ca A ad (f_X4_come ρ x1)) ([.ref (ad 0 0), .int x1]).toArray s 3 23 A) (F0 m 21 ls []) := by
    intro  H locs ls hF hw hS hl
    unfold f_X4_come_L21 at hF
    exact kh_throw C hlt hT hw hS hl.1.1 hout hlocks (ik := 53) (is := 131) (ic := 57) (text := "the room is not READY, or cannot be left") hT.2.2.2.2.1 (by decide +kernel) (by decide +kernel) kh_hg2 kh_hb2 (C.2.2.2.2.1 (.classLink RX4 53 kh_E2) (by decide +kernel)) (C.2.2.2.2.1 (.initialized kh_E2) (by decide +kernel)) dX4_come_21 dX4_come_24 dX4_come_25 dX4_come_27 dX4_come_30 (hF0.trans hF.symm) ⟨Nat.le_of_ble_eq_true rfl, Nat.le_of_ble_eq_true rfl, Nat.le_of_ble_eq_true rfl, Nat.le_of_ble_eq_true rfl⟩ ⟨Nat.le_of_ble_eq_true rfl, Nat.le_of_ble_eq_true rfl⟩
  refine lv_aload_n C.1 C.2.1 dX4_come_0 rfl (kh_at hl 0 rfl) ?_
  refine lv_iload_n C.1 C.2.1 dX4_come_1 rfl (kh_at hl 1 rfl) ?_
  rcases kh_bx_ok hF with ⟨e_3, h_3, hF⟩ | ⟨r_3, h_3, hF⟩
  · refine kh_xcallX (vx_runV (As := [.int x1]) (rest := []) ⟨C.1, C.2.1, C.2.2.1, C.2.2.2.1, C.2.2.2.2.1⟩ (c_X4_roomNumbered l hlt D ca A ad ρ x1 h_3) (cwV 1 C.2.2.2.2.1 gX4_come_X4_roomNumbered rfl rfl rfl (by decide +kernel) ⟨Nat.le_of_ble_eq_true rfl, Nat.le_of_ble_eq_true rfl⟩) (kh_preVJ C hT hw hS 0 (kh_z0 ρ) kh_kd0 rfl) rfl rfl hl.1.1 rfl (lv_room (kh_sum kh_an (Nat.le_of_ble_eq_true rfl))) dX4_come_2 ⟨Nat.le_of_ble_eq_true rfl, Nat.le_of_ble_eq_true rfl⟩) hS (kh_pl h_3) (kh_notYq (kh_pl h_3)) (fun H locs ce q9 hw hS h7 h8 h9 => ?_)
    exact kh_out hout hlocks h7 h8 h9 hw hS (hF0.trans hF.symm) (Nat.le_of_ble_eq_true rfl) (Nat.le_of_ble_eq_true rfl)
  refine kh_xcallq (vx_runV (As := [.int x1]) (rest := []) ⟨C.1, C.2.1, C.2.2.1, C.2.2.2.1, C.2.2.2.2.1⟩ (c_X4_roomNumbered l hlt D ca A ad ρ x1 h_3) (cwV 1 C.2.2.2.2.1 gX4_come_X4_roomNumbered rfl rfl rfl (by decide +kernel) ⟨Nat.le_of_ble_eq_true rfl, Nat.le_of_ble_eq_true rfl⟩) (kh_preVJ C hT hw hS 0 (kh_z0 ρ) kh_kd0 rfl) rfl rfl hl.1.1 rfl (lv_room (kh_sum kh_an (Nat.le_of_ble_eq_true rfl))) dX4_come_2 ⟨Nat.le_of_ble_eq_true rfl, Nat.le_of_ble_eq_true rfl⟩) hS (kh_pr h_3) (fun H locs hw hS => ?_)
  refine kh_astore_n (lv' := [(2, va_rf (kh_rc ad 6 r_3)), (0, .ref (ad 0 0)), (1, .int x1)]) C.1 C.2.1 dX4_come_5 rfl hl (by decide) rfl (fun ls hl => ?_)
  refine kh_aload_n C.1 C.2.1 dX4_come_6 rfl (kh_at hl 0 rfl) ?_
  obtain ⟨g_4, hF⟩ := kh_gd_ok hF
  have v_5 := kh_in_lt g_4
  have r_6 := kh_rf (ad := ad) (k := 6) g_4
  refine kh_get C hw 6 8 r_6 v_5 kh_kd6 (Cn := RX2) (T := TX2) (N := 13) rfl (Nat.le_of_ble_eq_true rfl) k_77 (kf_6_8 ad ρ r_3.toNatClampNeg) dX4_come_7 ?_
  refine lv_if_ne (tgt := 21) C.1 C.2.1 dX4_come_10 (by decide) (fun c_7 => ?_) (fun c_7 => ?_)
  · have hF := kh_iff hF c_7
    exact wL21  _ _ _ hF hw hS (kh_sub hl [] rfl)
  · have hF := kh_ift hF c_7
    refine lv_aload_n C.1 C.2.1 dX4_come_13 rfl (kh_at hl 1 rfl) ?_
    refine kh_aload_n C.1 C.2.1 dX4_come_14 rfl (kh_at hl 0 rfl) ?_
    obtain ⟨r_8, h_8, hF⟩ := kh_bd_ok hF
    refine kh_calli (va_runV (As := [va_rf (kh_rc ad 6 r_3)]) (rest := []) ⟨C.1, C.2.1, C.2.2.1, C.2.2.2.1, C.2.2.2.2.1⟩ (c_X4_hasExit l D ca A ad ρ r_3 h_8) (cwV 1 C.2.2.2.2.1 gX4_come_X4_hasExit rfl rfl rfl (by decide +kernel) ⟨Nat.le_of_ble_eq_true rfl, Nat.le_of_ble_eq_true rfl⟩) (kh_preV C hw hS 0 (kh_z0 ρ) kh_kd0 rfl) rfl rfl hl.1.1 rfl (lv_room (kh_sum kh_an (Nat.le_of_ble_eq_true rfl))) dX4_come_15 ⟨Nat.le_of_ble_eq_true rfl, Nat.le_of_ble_eq_true rfl⟩) hS (kh_mp h_8) (fun H locs hw hS => ?_)
    refine lv_if_ne (tgt := 31) C.1 C.2.1 dX4_come_18 (by decide) (fun c_9 => ?_) (fun c_9 => ?_)
    · have hF := kh_iff hF c_9
      refine lv_aload_n C.1 C.2.1 dX4_come_31 rfl (kh_at hl 1 rfl) ?_
      refine kh_aload_n C.1 C.2.1 dX4_come_32 rfl (kh_at hl 0 rfl) ?_
      obtain ⟨r_10, h_10, hF⟩ := kh_bd_ok hF
      refine kh_callq (va_runV (As := [va_rf (kh_rc ad 6 r_3)]) (rest := []) ⟨C.1, C.2.1, C.2.2.1, C.2.2.2.1, C.2.2.2.2.1⟩ (c_X4_bookingDue l D ca A ad ρ r_3 h_10) (cwV 1 C.2.2.2.2.1 gX4_come_X4_bookingDue rfl rfl rfl (by decide +kernel) ⟨Nat.le_of_ble_eq_true rfl, Nat.le_of_ble_eq_true rfl⟩) (kh_preV C hw hS 0 (kh_z0 ρ) kh_kd0 rfl) rfl rfl hl.1.1 rfl (lv_room (kh_sum kh_an (Nat.le_of_ble_eq_true rfl))) dX4_come_33 ⟨Nat.le_of_ble_eq_true rfl, Nat.le_of_ble_eq_true rfl⟩) hS (kh_mp h_10) (fun H locs hw hS => ?_)
      refine kh_astore_n (lv' := [(3, va_rf (kh_rc ad 14 r_10)), (2, va_rf (kh_rc ad 6 r_3)), (0, .ref (ad 0 0)), (1, .int x1)]) C.1 C.2.1 dX4_come_36 rfl hl (by decide) rfl (fun ls hl => ?_)
      refine kh_aload_n C.1 C.2.1 dX4_come_37 rfl (kh_at hl 0 rfl) ?_
      refine kh_ifnonnull (tgt := 59) C.1 C.2.1 dX4_come_38 (by decide) (fun c_11 => ?_) (fun c_11 => ?_)
      · have hF := kh_iff hF c_11
        exact wL59 r_3 r_10 _ _ _ hF hw hS (kh_sub hl [2, 1, 0] rfl)
      · have hF := kh_ift hF c_11
        refine lv_aload_n C.1 C.2.1 dX4_come_41 rfl (kh_at hl 2 rfl) ?_
        refine kh_aload_n C.1 C.2.1 dX4_come_42 rfl (kh_at hl 1 rfl) ?_
        obtain ⟨r_12, h_12, hF⟩ := kh_bd_ok hF
        refine kh_calli (va_runV (As := [va_rf (kh_rc ad 6 r_3)]) (rest := []) ⟨C.1, C.2.1, C.2.2.1, C.2.2.2.1, C.2.2.2.2.1⟩ (c_X4_isKeptForBooking l D ca A ad ρ r_3 h_12) (cwV 1 C.2.2.2.2.1 gX4_come_X4_isKeptForBooking rfl rfl rfl (by decide +kernel) ⟨Nat.le_of_ble_eq_true rfl, Nat.le_of_ble_eq_true rfl⟩) (kh_preV C hw hS 0 (kh_z0 ρ) kh_kd0 rfl) rfl rfl hl.1.1 rfl (lv_room (kh_sum kh_an (Nat.le_of_ble_eq_true rfl))) dX4_come_43 ⟨Nat.le_of_ble_eq_true rfl, Nat.le_of_ble_eq_true rfl⟩) hS (kh_mp h_12) (fun H locs hw hS => ?_)
        refine lv_if_eq (tgt := 59) C.1 C.2.1 dX4_come_46 (by decide) (fun c_13 => ?_) (fun c_13 => ?_)
        · have hF := kh_ift hF c_13
          exact wL59 r_3 r_10 _ _ _ hF hw hS (kh_sub hl [2, 1, 0] rfl)
        · have hF := kh_iff hF c_13
          exact kh_throw C hlt hT hw hS hl.1.1 hout hlocks (ik := 53) (is := 140) (ic := 57) (text := "a booking is too nea\x72") hT.2.2.2.2.1 (by decide +kernel) (by decide +kernel) kh_hg2 kh_hb2 (C.2.2.2.2.1 (.classLink RX4 53 kh_E2) (by decide +kernel)) (C.2.2.2.2.1 (.initialized kh_E2) (by decide +kernel)) dX4_come_49 dX4_come_52 dX4_come_53 dX4_come_55 dX4_come_58 (hF0.trans hF.symm) ⟨Nat.le_of_ble_eq_true rfl, Nat.le_of_ble_eq_true rfl, Nat.le_of_ble_eq_true rfl, Nat.le_of_ble_eq_true rfl⟩ ⟨Nat.le_of_ble_eq_true rfl, Nat.le_of_ble_eq_true rfl⟩
    · have hF := kh_ift hF c_9
      exact wL21  _ _ _ hF hw hS (kh_sub hl [] rfl)

