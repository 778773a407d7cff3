def f_X5_group_L118 (ρ_118 : kh_S) (t0_118 : Int32) : Option (Int32 × kh_S) := some (t0_118, ρ_118)
def f_X5_group_L27 (ρ_27 : kh_S) (x1_27 : Int32) (x2_27 : Int32) (t1_27 : Int32) : Option (Int32 × kh_S) := kh_bd2 (f_X5_refused ρ_27 t1_27) (fun r_1 ρ_1 => if r_1 = 0 then if x2_27 = (0 : Int32) then kh_gd (kh_in x1_27 30) (some (ρ_1 35 0 0 x1_27.toNatClampNeg, ρ_1)) else (if x2_27 = (1 : Int32) then kh_gd (kh_in x1_27 30) (some (ρ_1 36 0 0 x1_27.toNatClampNeg, ρ_1)) else (if x2_27 = (2 : Int32) then kh_gd (kh_in x1_27 30) (some (ρ_1 37 0 0 x1_27.toNatClampNeg, ρ_1)) else (if x2_27 = (3 : Int32) then kh_gd (kh_in x1_27 30) (some (ρ_1 38 0 0 x1_27.toNatClampNeg, ρ_1)) else (if x2_27 = (4 : Int32) then kh_gd (kh_in x1_27 30) (if (ρ_1 35 0 0 x1_27.toNatClampNeg) = 0 then kh_bd (f_X5_left ρ_1 x1_27) (fun r_14 => f_X5_group_L118 ρ_1 r_14) else f_X5_group_L118 ρ_1 (0 : Int32)) else (kh_gd (kh_in x1_27 30) (some (ρ_1 41 0 0 x1_27.toNatClampNeg, ρ_1))))))) else some ((0 : Int32), ρ_1))
def f_X5_group (ρ : kh_S) (x1 : Int32) (x2 : Int32) : Option (Int32 × kh_S) := kh_bd (f_X5_isGroup ρ x1) (fun r_16 => if r_16 = 0 then f_X5_group_L27 ρ x1 x2 (1 : Int32) else kh_bd (f_X5_in ρ x2 (0 : Int32) (5 : Int32)) (fun r_18 => if r_18 = 0 then f_X5_group_L27 ρ x1 x2 (2 : Int32) else f_X5_group_L27 ρ x1 x2 (0 : Int32)))
set_option maxHeartbeats 4000000 in
set_option maxRecDepth 100000 in
theorem c_X5_group (l : Launch) (D : va_G) (ca : Nat → ClassId) (A : Nat → Prop) (ad : Nat → Nat → Nat) (ρ : kh_S) (x1 : Int32) (x2 : Int32) {q0 : Int32 × kh_S} (hF0 : f_X5_group ρ x1 x2 = some q0) : Met l yX5_group wsX5_group ({ frames := 2, cells := 0, slots := 0, locals := 43 } : Room) (va_Pc [.ref (ad 15 0), .int x1, .int x2] (kh_I D ca A ad ρ)) (kh_Qi D ca A ad (f_X5_group ρ x1 x2)) 0 0 A := by
  refine Met.ofW (cc := cX5_group) (maxL := 3) (ret := (some .int)) (by decide) rfl ?_
  intro p e s m args below meth c s₁ B hml hv
  obtain ⟨rfl, hK, hw, hA⟩ := hv
  have C : kh_C p s m ([.ref (ad 15 0), .int x1, .int x2]).toArray c cX5_group 3 RX5 wsX5_group D ca A := ⟨B.exec, B.bytes, hml, findClass_of_methodNamed B.named, atoms_spec (ws := wsX5_group) B.pre, hK, hA⟩
  have hr := B.returns
  have hlocks := B.notSynchronized
  have hS : va_S A s.heap s.heap [] := va_S.rf
  have hl := kh_entry ([.ref (ad 15 0), .int x1, .int x2]) (n := 3) (kh_ac rfl (kh_ac rfl (kh_ac rfl kh_an))) (Nat.le_of_ble_eq_true rfl)
  rw [lg_entry_eq]
  generalize (lg_sl ([.ref (ad 15 0), .int x1, .int x2]) ++ List.replicate (3 - (lg_sl ([.ref (ad 15 0), .int x1, .int x2])).length) Slot.unset).toArray = ls at hl ⊢
  have hl : kh_lv ls 3 [(0, .ref (ad 15 0)), (1, .int x1), (2, .int x2)] := hl
  have k_40 := C.2.2.2.2.1 (.fieldLink RX5 40 "KeylessHallModel" "how" "[I") (by decide +kernel)
  have k_43 := C.2.2.2.2.1 (.fieldLink RX5 43 "KeylessHallModel" "roomOf" "[I") (by decide +kernel)
  have k_46 := C.2.2.2.2.1 (.fieldLink RX5 46 "KeylessHallModel" "holds" "[I") (by decide +kernel)
  have k_49 := C.2.2.2.2.1 (.fieldLink RX5 49 "KeylessHallModel" "solved" "[I") (by decide +kernel)
  have k_58 := C.2.2.2.2.1 (.fieldLink RX5 58 "KeylessHallModel" "hintsGot" "[I") (by decide +kernel)
  have hF := hF0
  unfold f_X5_group at hF
  have wL118 : ∀ (ρ_118 : kh_S) (t0_118 : Int32) (H : Heap) (locs : List Loc) (ls : Array Slot), f_X5_group_L118 ρ_118 t0_118 = some q0 → kh_w D ca A ad ρ_118 H → va_S A s.heap H locs → kh_lv ls 3 [] → W p l e (headSpec wsX5_group ({ frames := 2, cells := 0, slots := 0, locals := 43 } : Room)).room s m ([.ref (ad 15 0), .int x1, .int x2]).toArray below meth c H locs 0 0 (MQ below (kh_Qi D ca A ad (f_X5_group ρ x1 x2)) ([.ref (ad 15 0), .int x1, .int x2]).toArray s 0 0 A) (F0 m 118 ls [.int t0_118]) := by
    intro ρ_118 t0_118 H locs ls hF hw hS hl
    unfold f_X5_group_L118 at hF
    exact W.iret (v := t0_118) C.1 C.2.1 hr (fun t ht hW => ⟨⟨t0_118, ρ_118, rfl, hF0.trans hF.symm, kh_bk ht hw⟩, hS.F ht⟩) hS.2.2 dX5_group_118
  have wL27 : ∀ (ρ_27 : kh_S) (x1_27 : Int32) (x2_27 : Int32) (t1_27 : Int32) (H : Heap) (locs : List Loc) (ls : Array Slot), f_X5_group_L27 ρ_27 x1_27 x2_27 t1_27 = some q0 → kh_w D ca A ad ρ_27 H → va_S A s.heap H locs → kh_lv ls 3 [(0, .ref (ad 15 0)), (1, .int x1_27), (2, .int x2_27)] → W p l e (headSpec wsX5_group ({ frames := 2, cells := 0, slots := 0, locals := 43 } : Room)).room s m ([.ref (ad 15 0), .int x1, .int x2]).toArray below meth c H locs 0 0 (MQ below (kh_Qi D ca A ad (f_X5_group ρ x1 x2)) ([.ref (ad 15 0), .int x1, .int x2]).toArray s 0 0 A) (F0 m 27 ls [.int t1_27, .ref (ad 15 0)]) := by
    intro ρ_27 x1_27 x2_27 t1_27 H locs ls hF hw hS hl
    unfold f_X5_group_L27 at hF
    obtain ⟨r_1, ρ_1, h_1, hF⟩ := kh_bd2_ok hF
    refine kh_calli (va_runV (As := [.int t1_27]) (rest := []) ⟨C.1, C.2.1, C.2.2.1, C.2.2.2.1, C.2.2.2.2.1⟩ (c_X5_refused l D ca A ad ρ_27 t1_27 h_1) (cwV 1 C.2.2.2.2.1 gX5_group_X5_refused rfl rfl rfl (by decide +kernel) ⟨Nat.le_of_ble_eq_true rfl, Nat.le_of_ble_eq_true rfl⟩) (kh_preV C hw hS 15 (kh_z15 ρ_27) kh_kd15 rfl) rfl rfl hl.1.1 rfl (lv_room (kh_sum kh_an (Nat.le_of_ble_eq_true rfl))) dX5_group_27 ⟨Nat.le_of_ble_eq_true rfl, Nat.le_of_ble_eq_true rfl⟩) hS h_1 (fun H locs hw hS => ?_)
    refine lv_if_eq (tgt := 35) C.1 C.2.1 dX5_group_30 (by decide) (fun c_2 => ?_) (fun c_2 => ?_)
    · have hF := kh_ift hF c_2
      refine lv_iload_n C.1 C.2.1 dX5_group_35 rfl (kh_at hl 2 rfl) ?_
      by_cases c_3 : x2_27 = (0 : Int32)
      · have hF := kh_ift hF c_3
        refine kh_swIn (tgt := 72) (off := 36) C.1 C.2.1 dX5_group_36 c_3 (by decide) (by decide) (by decide +kernel) (by decide) ?_
        refine lv_aload_n C.1 C.2.1 dX5_group_72 rfl (kh_at hl 0 rfl) ?_
        refine kh_get C hw 15 15 rfl (kh_z15 ρ_1) kh_kd15 (Cn := RX5) (T := TX5) (N := 33) rfl (Nat.le_of_ble_eq_true rfl) k_40 (kf_15_15 ad ρ_1 0) dX5_group_73 ?_
        refine lv_iload_n C.1 C.2.1 dX5_group_76 rfl (kh_at hl 1 rfl) ?_
        obtain ⟨g_4, hF⟩ := kh_gd_ok hF
        refine kh_iald C hw 35 rfl (kh_z35 ρ_1) kh_kd35 g_4 dX5_group_77 ?_
        exact W.iret (v := ρ_1 35 0 0 x1_27.toNatClampNeg) C.1 C.2.1 hr (fun t ht hW => ⟨⟨ρ_1 35 0 0 x1_27.toNatClampNeg, ρ_1, rfl, hF0.trans hF.symm, kh_bk ht hw⟩, hS.F ht⟩) hS.2.2 dX5_group_78
      have hF := kh_iff hF c_3
      by_cases c_5 : x2_27 = (1 : Int32)
      · have hF := kh_ift hF c_5
        refine kh_swIn (tgt := 79) (off := 43) C.1 C.2.1 dX5_group_36 c_5 (by decide) (by decide) (by decide +kernel) (by decide) ?_
        refine lv_aload_n C.1 C.2.1 dX5_group_79 rfl (kh_at hl 0 rfl) ?_
        refine kh_get C hw 15 16 rfl (kh_z15 ρ_1) kh_kd15 (Cn := RX5) (T := TX5) (N := 33) rfl (Nat.le_of_ble_eq_true rfl) k_43 (kf_15_16 ad ρ_1 0) dX5_group_80 ?_
        refine lv_iload_n C.1 C.2.1 dX5_group_83 rfl (kh_at hl 1 rfl) ?_
        obtain ⟨g_6, hF⟩ := kh_gd_ok hF
        refine kh_iald C hw 36 rfl (kh_z36 ρ_1) kh_kd36 g_6 dX5_group_84 ?_
        exact W.iret (v := ρ_1 36 0 0 x1_27.toNatClampNeg) C.1 C.2.1 hr (fun t ht hW => ⟨⟨ρ_1 36 0 0 x1_27.toNatClampNeg, ρ_1, rfl, hF0.trans hF.symm, kh_bk ht hw⟩, hS.F ht⟩) hS.2.2 dX5_group_85
      have hF := kh_iff hF c_5
      by_cases c_7 : x2_27 = (2 : Int32)
      · have hF := kh_ift hF c_7
        refine kh_swIn (tgt := 86) (off := 50) C.1 C.2.1 dX5_group_36 c_7 (by decide) (by decide) (by decide +kernel) (by decide) ?_
        refine lv_aload_n C.1 C.2.1 dX5_group_86 rfl (kh_at hl 0 rfl) ?_
        refine kh_get C hw 15 17 rfl (kh_z15 ρ_1) kh_kd15 (Cn := RX5) (T := TX5) (N := 33) rfl (Nat.le_of_ble_eq_true rfl) k_46 (kf_15_17 ad ρ_1 0) dX5_group_87 ?_
        refine lv_iload_n C.1 C.2.1 dX5_group_90 rfl (kh_at hl 1 rfl) ?_
        obtain ⟨g_8, hF⟩ := kh_gd_ok hF
        refine kh_iald C hw 37 rfl (kh_z37 ρ_1) kh_kd37 g_8 dX5_group_91 ?_
        exact W.iret (v := ρ_1 37 0 0 x1_27.toNatClampNeg) C.1 C.2.1 hr (fun t ht hW => ⟨⟨ρ_1 37 0 0 x1_27.toNatClampNeg, ρ_1, rfl, hF0.trans hF.symm, kh_bk ht hw⟩, hS.F ht⟩) hS.2.2 dX5_group_92
      have hF := kh_iff hF c_7
      by_cases c_9 : x2_27 = (3 : Int32)
      · have hF := kh_ift hF c_9
        refine kh_swIn (tgt := 93) (off := 57) C.1 C.2.1 dX5_group_36 c_9 (by decide) (by decide) (by decide +kernel) (by decide) ?_
        refine lv_aload_n C.1 C.2.1 dX5_group_93 rfl (kh_at hl 0 rfl) ?_
        refine kh_get C hw 15 18 rfl (kh_z15 ρ_1) kh_kd15 (Cn := RX5) (T := TX5) (N := 33) rfl (Nat.le_of_ble_eq_true rfl) k_49 (kf_15_18 ad ρ_1 0) dX5_group_94 ?_
        refine lv_iload_n C.1 C.2.1 dX5_group_97 rfl (kh_at hl 1 rfl) ?_
        obtain ⟨g_10, hF⟩ := kh_gd_ok hF
        refine kh_iald C hw 38 rfl (kh_z38 ρ_1) kh_kd38 g_10 dX5_group_98 ?_
        exact W.iret (v := ρ_1 38 0 0 x1_27.toNatClampNeg) C.1 C.2.1 hr (fun t ht hW => ⟨⟨ρ_1 38 0 0 x1_27.toNatClampNeg, ρ_1, rfl, hF0.trans hF.symm, kh_bk ht hw⟩, hS.F ht⟩) hS.2.2 dX5_group_99
      have hF := kh_iff hF c_9
      by_cases c_11 : x2_27 = (4 : Int32)
      · have hF := kh_ift hF c_11
        refine kh_swIn (tgt := 100) (off := 64) C.1 C.2.1 dX5_group_36 c_11 (by decide) (by decide) (by decide +kernel) (by decide) ?_
        refine lv_aload_n C.1 C.2.1 dX5_group_100 rfl (kh_at hl 0 rfl) ?_
        refine kh_get C hw 15 15 rfl (kh_z15 ρ_1) kh_kd15 (Cn := RX5) (T := TX5) (N := 33) rfl (Nat.le_of_ble_eq_true rfl) k_40 (kf_15_15 ad ρ_1 0) dX5_group_101 ?_
        refine lv_iload_n C.1 C.2.1 dX5_group_104 rfl (kh_at hl 1 rfl) ?_
        obtain ⟨g_12, hF⟩ := kh_gd_ok hF
        refine kh_iald C hw 35 rfl (kh_z35 ρ_1) kh_kd35 g_12 dX5_group_105 ?_
        refine lv_if_ne (tgt := 117) C.1 C.2.1 dX5_group_106 (by decide) (fun c_13 => ?_) (fun c_13 => ?_)
        · have hF := kh_iff hF c_13
          refine lv_iconst (v := (0 : Int32)) C.1 C.2.1 dX5_group_117 (by decide) ?_
          exact wL118 ρ_1 (0 : Int32) _ _ _ hF hw hS (kh_sub hl [] rfl)
        · have hF := kh_ift hF c_13
          refine lv_aload_n C.1 C.2.1 dX5_group_109 rfl (kh_at hl 0 rfl) ?_
          refine lv_iload_n C.1 C.2.1 dX5_group_110 rfl (kh_at hl 1 rfl) ?_
          obtain ⟨r_14, h_14, hF⟩ := kh_bd_ok hF
          refine kh_calli (va_runV (As := [.int x1_27]) (rest := []) ⟨C.1, C.2.1, C.2.2.1, C.2.2.2.1, C.2.2.2.2.1⟩ (c_X5_left l D ca A ad ρ_1 x1_27 h_14) (cwV 1 C.2.2.2.2.1 gX5_group_X5_left rfl rfl rfl (by decide +kernel) ⟨Nat.le_of_ble_eq_true rfl, Nat.le_of_ble_eq_true rfl⟩) (kh_preV C hw hS 15 (kh_z15 ρ_1) kh_kd15 rfl) rfl rfl hl.1.1 rfl (lv_room (kh_sum kh_an (Nat.le_of_ble_eq_true rfl))) dX5_group_111 ⟨Nat.le_of_ble_eq_true rfl, Nat.le_of_ble_eq_true rfl⟩) hS (kh_mp h_14) (fun H locs hw hS => ?_)
          refine lv_goto (tgt := 118) C.1 C.2.1 dX5_group_114 (by decide) ?_
          exact wL118 ρ_1 r_14 _ _ _ hF hw hS (kh_sub hl [] rfl)
      have hF := kh_iff hF c_11
      refine lv_tableOut (tgt := 119) C.1 C.2.1 dX5_group_36 (kh_swO (fun k a9 b9 => by
        rcases (show k = 0 ∨ k = 1 ∨ k = 2 ∨ k = 3 ∨ k = 4 by omega) with rfl | rfl | rfl | rfl | rfl
        · exact kh_neT c_3 (by decide)
        · exact kh_neT c_5 (by decide)
        · exact kh_neT c_7 (by decide)
        · exact kh_neT c_9 (by decide)
        · exact kh_neT c_11 (by decide))) (by decide) ?_
      refine lv_aload_n C.1 C.2.1 dX5_group_119 rfl (kh_at hl 0 rfl) ?_
      refine kh_get C hw 15 21 rfl (kh_z15 ρ_1) kh_kd15 (Cn := RX5) (T := TX5) (N := 33) rfl (Nat.le_of_ble_eq_true rfl) k_58 (kf_15_21 ad ρ_1 0) dX5_group_120 ?_
      refine lv_iload_n C.1 C.2.1 dX5_group_123 rfl (kh_at hl 1 rfl) ?_
      obtain ⟨g_15, hF⟩ := kh_gd_ok hF
      refine kh_iald C hw 41 rfl (kh_z41 ρ_1) kh_kd41 g_15 dX5_group_124 ?_
      exact W.iret (v := ρ_1 41 0 0 x1_27.toNatClampNeg) C.1 C.2.1 hr (fun t ht hW => ⟨⟨ρ_1 41 0 0 x1_27.toNatClampNeg, ρ_1, rfl, hF0.trans hF.symm, kh_bk ht hw⟩, hS.F ht⟩) hS.2.2 dX5_group_125
    · have hF := kh_iff hF c_2
      refine lv_iconst (v := (0 : Int32)) C.1 C.2.1 dX5_group_33 (by decide) ?_
      exact W.iret (v := (0 : Int32)) C.1 C.2.1 hr (fun t ht hW => ⟨⟨(0 : Int32), ρ_1, rfl, hF0.trans hF.symm, kh_bk ht hw⟩, hS.F ht⟩) hS.2.2 dX5_group_34
  refine lv_aload_n C.1 C.2.1 dX5_group_0 rfl (kh_at hl 0 rfl) ?_
  refine lv_aload_n C.1 C.2.1 dX5_group_1 rfl (kh_at hl 0 rfl) ?_
  refine lv_iload_n C.1 C.2.1 dX5_group_2 rfl (kh_at hl 1 rfl) ?_
  obtain ⟨r_16, h_16, hF⟩ := kh_bd_ok hF
  refine kh_calli (va_runV (As := [.int x1]) (rest := [.ref (ad 15 0)]) ⟨C.1, C.2.1, C.2.2.1, C.2.2.2.1, C.2.2.2.2.1⟩ (c_X5_isGroup l D ca A ad ρ x1 h_16) (cwV 1 C.2.2.2.2.1 gX5_group_X5_isGroup rfl rfl rfl (by decide +kernel) ⟨Nat.le_of_ble_eq_true rfl, Nat.le_of_ble_eq_true rfl⟩) (kh_preV C hw hS 15 (kh_z15 ρ) kh_kd15 rfl) rfl rfl hl.1.1 rfl (lv_room (kh_sum (kh_ac rfl kh_an) (Nat.le_of_ble_eq_true rfl))) dX5_group_3 ⟨Nat.le_of_ble_eq_true rfl, Nat.le_of_ble_eq_true rfl⟩) hS (kh_mp h_16) (fun H locs hw hS => ?_)
  refine lv_if_ne (tgt := 13) C.1 C.2.1 dX5_group_6 (by decide) (fun c_17 => ?_) (fun c_17 => ?_)
  · have hF := kh_iff hF c_17
    refine lv_iload_n C.1 C.2.1 dX5_group_13 rfl (kh_at hl 2 rfl) ?_
    refine lv_iconst (v := (0 : Int32)) C.1 C.2.1 dX5_group_14 (by decide) ?_
    refine lv_iconst (v := (5 : Int32)) C.1 C.2.1 dX5_group_15 (by decide) ?_
    obtain ⟨r_18, h_18, hF⟩ := kh_bd_ok hF
    refine kh_calli (va_runS (As := [.int x2, .int (0 : Int32), .int (5 : Int32)]) (rest := [.ref (ad 15 0)]) ⟨C.1, C.2.1, C.2.2.1, C.2.2.2.1, C.2.2.2.2.1⟩ (c_X5_in l D ca A ad ρ x2 (0 : Int32) (5 : Int32) h_18) (va_cwS 3 C.2.2.2.2.1 gX5_group_X5_in rfl rfl rfl (by decide +kernel) ⟨Nat.le_of_ble_eq_true rfl, Nat.le_of_ble_eq_true rfl⟩) (kh_preS C hw hS) rfl rfl hl.1.1 rfl (lv_room (kh_sum (kh_ac rfl kh_an) (Nat.le_of_ble_eq_true rfl))) dX5_group_16 ⟨Nat.le_of_ble_eq_true rfl, Nat.le_of_ble_eq_true rfl⟩) hS (kh_mp h_18) (fun H locs hw hS => ?_)
    refine lv_if_ne (tgt := 26) C.1 C.2.1 dX5_group_19 (by decide) (fun c_19 => ?_) (fun c_19 => ?_)
    · have hF := kh_iff hF c_19
      refine lv_iconst (v := (0 : Int32)) C.1 C.2.1 dX5_group_26 (by decide) ?_
      exact wL27 ρ x1 x2 (0 : Int32) _ _ _ hF hw hS (kh_sub hl [0, 1, 2] rfl)
    · have hF := kh_ift hF c_19
      refine lv_iconst (v := (2 : Int32)) C.1 C.2.1 dX5_group_22 (by decide) ?_
      refine lv_goto (tgt := 27) C.1 C.2.1 dX5_group_23 (by decide) ?_
      exact wL27 ρ x1 x2 (2 : Int32) _ _ _ hF hw hS (kh_sub hl [0, 1, 2] rfl)
  · have hF := kh_ift hF c_17
    refine lv_iconst (v := (1 : Int32)) C.1 C.2.1 dX5_group_9 (by decide) ?_
    refine lv_goto (tgt := 27) C.1 C.2.1 dX5_group_10 (by decide) ?_
    exact wL27 ρ x1 x2 (1 : Int32) _ _ _ hF hw hS (kh_sub hl [0, 1, 2] rfl)

def f_X4_roomNumbered_L12 (ρ : kh_S) : Option (String ⊕ Int32) := some (.inl kh_E3)
def f_X4_roomNumbered (ρ : kh_S) (x1 : Int32) : Option (String ⊕ Int32) := if x1 < 0 then f_X4_roomNumbered_L12 ρ else if x1 < (ρ 0 1 0 0) then kh_gd (kh_in x1 4) (some (.inr (ρ 1 0 0 x1.toNatClampNeg))) else f_X4_roomNumbered_L12 ρ
set_option maxHeartbeats 4000000 in
set_option maxRecDepth 100000 in
theorem c_X4_roomNumbered (l : Launch) (hlt : l.stackTraces = false) (D : va_G) (ca : Nat → ClassId) (A : Nat → Prop) (ad : Nat → Nat → Nat) (ρ : kh_S) (x1 : Int32) {q0 : String ⊕ Int32} (hF0 : f_X4_roomNumbered ρ x1 = some q0) : vx_Met l yX4_roomNumbered wsX4_roomNumbered ({ frames := 6, cells := 1, slots := 6, locals := 90 } : Room) (va_Pc [.ref (ad 0 0), .int x1] (kh_J D ca A ad ρ)) (kh_Yq D ca A ad 6 (kh_pt (f_X4_roomNumbered ρ x1) ρ)) (kh_X D ca A ad (kh_pt (f_X4_roomNumbered ρ x1) ρ)) 1 6 A := by
  refine vx_ofW (cc := cX4_roomNumbered) (maxL := 2) (ret := (some (.object "KeylessHall$Room"))) (by decide) rfl ?_
  intro p e s m args below meth c s₁ B hml hout hv
  obtain ⟨rfl, ⟨hK, hw, hA⟩, hT⟩ := hv
  have C : kh_C p s m ([.ref (ad 0 0), .int x1]).toArray c cX4_roomNumbered 2 RX4 wsX4_roomNumbered D ca A := ⟨B.exec, B.bytes, hml, findClass_of_methodNamed B.named, atoms_spec (ws := wsX4_roomNumbered) B.pre, hK, hA⟩
  have hr := B.returns
  have hlocks := B.notSynchronized
  have hS : va_S A s.heap s.heap [] := va_S.rf
  have hl := kh_entry ([.ref (ad 0 0), .int x1]) (n := 2) (kh_ac rfl (kh_ac rfl kh_an)) (Nat.le_of_ble_eq_true rfl)
  rw [lg_entry_eq]
  generalize (lg_sl ([.ref (ad 0 0), .int x1]) ++ List.replicate (2 - (lg_sl ([.ref (ad 0 0), .int x1])).length) Slot.unset).toArray = ls at hl ⊢
  have hl : kh_lv ls 2 [(0, .ref (ad 0 0)), (1, .int x1)] := hl
  have k_49 := C.2.2.2.2.1 (.fieldLink RX4 49 "KeylessHall" "roomCount" "I") (by decide +kernel)
  have k_11 := C.2.2.2.2.1 (.fieldLink RX4 11 "KeylessHall" "rooms" "[LKeylessHall$Room;") (by decide +kernel)
  have hF := hF0
  unfold f_X4_roomNumbered at hF
  have wL12 : ∀ (H : Heap) (locs : List Loc) (ls : Array Slot), f_X4_roomNumbered_L12 ρ = some q0 → kh_w D ca A ad ρ H → va_S A s.heap H locs → kh_lv ls 2 [] → W p l e (headSpec wsX4_roomNumbered ({ frames := 6, cells := 1, slots := 6, locals := 90 } : Room)).room s m ([.ref (ad 0 0), .int x1]).toArray below meth c H locs 0 0 (vx_MQ below (kh_Yq D ca A ad 6 (kh_pt (f_X4_roomNumbered ρ x1) ρ)) (kh_X D ca A ad (kh_pt (f_X4_roomNumbered ρ x1) ρ)) ([.ref (ad 0 0), .int x1]).toArray s 1 6 A) (F0 m 12 ls []) := by
    intro  H locs ls hF hw hS hl
    unfold f_X4_roomNumbered_L12 at hF
    exact kh_throwW C hlt hT hw hS hl.1.1 hout hlocks (ik := 68) (is := 307) (ic := 72) (text := "no such room") hT.2.2.2.2.2 (by decide +kernel) (by decide +kernel) kh_hg3 kh_hb3 (C.2.2.2.2.1 (.classLink RX4 68 kh_E3) (by decide +kernel)) (C.2.2.2.2.1 (.initialized kh_E3) (by decide +kernel)) dX4_roomNumbered_12 dX4_roomNumbered_15 dX4_roomNumbered_16 dX4_roomNumbered_19 dX4_roomNumbered_22 (kh_pl (hF0.trans hF.symm)) ⟨Nat.le_of_ble_eq_true rfl, Nat.le_of_ble_eq_true rfl, Nat.le_of_ble_eq_true rfl, Nat.le_of_ble_eq_true rfl⟩ ⟨Nat.le_of_ble_eq_true rfl, Nat.le_of_ble_eq_true rfl⟩
  refine lv_iload_n C.1 C.2.1 dX4_roomNumbered_0 rfl (kh_at hl 1 rfl) ?_
  refine lv_if_lt (tgt := 12) C.1 C.2.1 dX4_roomNumbered_1 (by decide) (fun c_1 => ?_) (fun c_1 => ?_)
  · have hF := kh_ift hF c_1
    exact wL12  _ _ _ hF hw hS (kh_sub hl [] rfl)
  · have hF := kh_iff hF c_1
    refine lv_iload_n C.1 C.2.1 dX4_roomNumbered_4 rfl (kh_at hl 1 rfl) ?_
    refine lv_aload_n C.1 C.2.1 dX4_roomNumbered_5 rfl (kh_at hl 0 rfl) ?_
    refine kh_get C hw 0 1 rfl (kh_z0 ρ) kh_kd0 (Cn := RX4) (T := TX4) (N := 10) rfl (Nat.le_of_ble_eq_true rfl) k_49 (kf_0_1 ad ρ 0) dX4_roomNumbered_6 ?_
    refine lv_icmp_lt (tgt := 23) C.1 C.2.1 dX4_roomNumbered_9 (by decide) (fun c_2 => ?_) (fun c_2 => ?_)
    · have hF := kh_ift hF c_2
      refine lv_aload_n C.1 C.2.1 dX4_roomNumbered_23 rfl (kh_at hl 0 rfl) ?_
      refine kh_get C hw 0 0 rfl (kh_z0 ρ) kh_kd0 (Cn := RX4) (T := TX4) (N := 10) rfl (Nat.le_of_ble_eq_true rfl) k_11 (kf_0_0 ad ρ 0) dX4_roomNumbered_24 ?_
      refine lv_iload_n C.1 C.2.1 dX4_roomNumbered_27 rfl (kh_at hl 1 rfl) ?_
      obtain ⟨g_3, hF⟩ := kh_gd_ok hF
      refine kh_aald C hw 1 rfl (kh_z1 ρ) kh_kd1 kh_ty1 g_3 dX4_roomNumbered_28 ?_
      refine vx_ret (W.widen (k := 1) (n := 6) (Nat.le_of_ble_eq_true rfl) (Nat.le_of_ble_eq_true rfl) ?_)
      exact W.aret (v := va_rf (kh_rc ad 6 (ρ 1 0 0 x1.toNatClampNeg))) C.1 C.2.1 hr (Or.inl ⟨_, rfl⟩) (va_rf_or _) (fun t ht hW => ⟨⟨kh_rc ad 6 (ρ 1 0 0 x1.toNatClampNeg), (ρ 1 0 0 x1.toNatClampNeg, ρ), rfl, ⟨rfl, kh_pr (hF0.trans hF.symm)⟩, kh_bk ht hw⟩, hS.F ht⟩) hS.2.2 dX4_roomNumbered_29
    · have hF := kh_iff hF c_2
      exact wL12  _ _ _ hF hw hS (kh_sub hl [] rfl)

def f_X4_groupNumbered_L12 (ρ : kh_S) : Option (String ⊕ Int32) := some (.inl kh_E3)
def f_X4_groupNumbered (ρ : kh_S) (x1 : Int32) : Option (String ⊕ Int32) := if x1 < 0 then f_X4_groupNumbered_L12 ρ else if x1 < (ρ 0 3 0 0) then kh_gd (kh_in x1 30) (some (.inr (ρ 2 0 0 x1.toNatClampNeg))) else f_X4_groupNumbered_L12 ρ
set_option maxHeartbeats 4000000 in
set_option maxRecDepth 100000 in
theorem c_X4_groupNumbered (l : Launch) (hlt : l.stackTraces = false) (D : va_G) (ca : Nat → ClassId) (A : Nat → Prop) (ad : Nat → Nat → Nat) (ρ : kh_S) (x1 : Int32) {q0 : String ⊕ Int32} (hF0 : f_X4_groupNumbered ρ x1 = some q0) : vx_Met l yX4_groupNumbered wsX4_groupNumbered ({ frames := 6, cells := 1, slots := 6, locals := 90 } : Room) (va_Pc [.ref (ad 0 0), .int x1] (kh_J D ca A ad ρ)) (kh_Yq D ca A ad 11 (kh_pt (f_X4_groupNumbered ρ x1) ρ)) (kh_X D ca A ad (kh_pt (f_X4_groupNumbered ρ x1) ρ)) 1 6 A := by
  refine vx_ofW (cc := cX4_groupNumbered) (maxL := 2) (ret := (some (.object "KeylessHall$Group"))) (by decide) rfl ?_
  intro p e s m args below meth c s₁ B hml hout hv
  obtain ⟨rfl, ⟨hK, hw, hA⟩, hT⟩ := hv
  have C : kh_C p s m ([.ref (ad 0 0), .int x1]).toArray c cX4_groupNumbered 2 RX4 wsX4_groupNumbered D ca A := ⟨B.exec, B.bytes, hml, findClass_of_methodNamed B.named, atoms_spec (ws := wsX4_groupNumbered) B.pre, hK, hA⟩
  have hr := B.returns
  have hlocks := B.notSynchronized
  have hS : va_S A s.heap s.heap [] := va_S.rf
  have hl := kh_entry ([.ref (ad 0 0), .int x1]) (n := 2) (kh_ac rfl (kh_ac rfl kh_an)) (Nat.le_of_ble_eq_true rfl)
  rw [lg_entry_eq]
  generalize (lg_sl ([.ref (ad 0 0), .int x1]) ++ List.replicate (2 - (lg_sl ([.ref (ad 0 0), .int x1])).length) Slot.unset).toArray = ls at hl ⊢
  have hl : kh_lv ls 2 [(0, .ref (ad 0 0)), (1, .int x1)] := hl
  have k_142 := C.2.2.2.2.1 (.fieldLink RX4 142 "KeylessHall" "groupCount" "I") (by decide +kernel)
  have k_17 := C.2.2.2.2.1 (.fieldLink RX4 17 "KeylessHall" "groups" "[LKeylessHall$Group;") (by decide +kernel)
  have hF := hF0
  unfold f_X4_groupNumbered at hF
  have wL12 : ∀ (H : Heap) (locs : List Loc) (ls : Array Slot), f_X4_groupNumbered_L12 ρ = some q0 → kh_w D ca A ad ρ H → va_S A s.heap H locs → kh_lv ls 2 [] → W p l e (headSpec wsX4_groupNumbered ({ frames := 6, cells := 1, slots := 6, locals := 90 } : Room)).room s m ([.ref (ad 0 0), .int x1]).toArray below meth c H locs 0 0 (vx_MQ below (kh_Yq D ca A ad 11 (kh_pt (f_X4_groupNumbered ρ x1) ρ)) (kh_X D ca A ad (kh_pt (f_X4_groupNumbered ρ x1) ρ)) ([.ref (ad 0 0), .int x1]).toArray s 1 6 A) (F0 m 12 ls []) := by
    intro  H locs ls hF hw hS hl
    unfold f_X4_groupNumbered_L12 at hF
    exact kh_throwW C hlt hT hw hS hl.1.1 hout hlocks (ik := 68) (is := 309) (ic := 72) (text := "no such group") hT.2.2.2.2.2 (by decide +kernel) (by decide +kernel) kh_hg3 kh_hb3 (C.2.2.2.2.1 (.classLink RX4 68 kh_E3) (by decide +kernel)) (C.2.2.2.2.1 (.initialized kh_E3) (by decide +kernel)) dX4_groupNumbered_12 dX4_groupNumbered_15 dX4_groupNumbered_16 dX4_groupNumbered_19 dX4_groupNumbered_22 (kh_pl (hF0.trans hF.symm)) ⟨Nat.le_of_ble_eq_true rfl, Nat.le_of_ble_eq_true rfl, Nat.le_of_ble_eq_true rfl, Nat.le_of_ble_eq_true rfl⟩ ⟨Nat.le_of_ble_eq_true rfl, Nat.le_of_ble_eq_true rfl⟩
  refine lv_iload_n C.1 C.2.1 dX4_groupNumbered_0 rfl (kh_at hl 1 rfl) ?_
  refine lv_if_lt (tgt := 12) C.1 C.2.1 dX4_groupNumbered_1 (by decide) (fun c_1 => ?_) (fun c_1 => ?_)
  · have hF := kh_ift hF c_1
    exact wL12  _ _ _ hF hw hS (kh_sub hl [] rfl)
  · have hF := kh_iff hF c_1
    refine lv_iload_n C.1 C.2.1 dX4_groupNumbered_4 rfl (kh_at hl 1 rfl) ?_
    refine lv_aload_n C.1 C.2.1 dX4_groupNumbered_5 rfl (kh_at hl 0 rfl) ?_
    refine kh_get C hw 0 3 rfl (kh_z0 ρ) kh_kd0 (Cn := RX4) (T := TX4) (N := 10) rfl (Nat.le_of_ble_eq_true rfl) k_142 (kf_0_3 ad ρ 0) dX4_groupNumbered_6 ?_
    refine lv_icmp_lt (tgt := 23) C.1 C.2.1 dX4_groupNumbered_9 (by decide) (fun c_2 => ?_) (fun c_2 => ?_)
    · have hF := kh_ift hF c_2
      refine lv_aload_n C.1 C.2.1 dX4_groupNumbered_23 rfl (kh_at hl 0 rfl) ?_
      refine kh_get C hw 0 2 rfl (kh_z0 ρ) kh_kd0 (Cn := RX4) (T := TX4) (N := 10) rfl (Nat.le_of_ble_eq_true rfl) k_17 (kf_0_2 ad ρ 0) dX4_groupNumbered_24 ?_
      refine lv_iload_n C.1 C.2.1 dX4_groupNumbered_27 rfl (kh_at hl 1 rfl) ?_
      obtain ⟨g_3, hF⟩ := kh_gd_ok hF
      refine kh_aald C hw 2 rfl (kh_z2 ρ) kh_kd2 kh_ty2 g_3 dX4_groupNumbered_28 ?_
      refine vx_ret (W.widen (k := 1) (n := 6) (Nat.le_of_ble_eq_true rfl) (Nat.le_of_ble_eq_true rfl) ?_)
      exact W.aret (v := va_rf (kh_rc ad 11 (ρ 2 0 0 x1.toNatClampNeg))) C.1 C.2.1 hr (Or.inl ⟨_, rfl⟩) (va_rf_or _) (fun t ht hW => ⟨⟨kh_rc ad 11 (ρ 2 0 0 x1.toNatClampNeg), (ρ 2 0 0 x1.toNatClampNeg, ρ), rfl, ⟨rfl, kh_pr (hF0.trans hF.symm)⟩, kh_bk ht hw⟩, hS.F ht⟩) hS.2.2 dX4_groupNumbered_29
    · have hF := kh_iff hF c_2
      exact wL12  _ _ _ hF hw hS (kh_sub hl [] rfl)

def f_X4_workerNumbered_L9 (ρ : kh_S) : Option (String ⊕ Int32) := some (.inl kh_E3)
def f_X4_workerNumbered (ρ : kh_S) (x1 : Int32) : Option (String ⊕ Int32) := if x1 < 0 then f_X4_workerNumbered_L9 ρ else if x1 < (3 : Int32) then kh_gd (kh_in x1 3) (some (.inr (ρ 4 0 0 x1.toNatClampNeg))) else f_X4_workerNumbered_L9 ρ
set_option maxHeartbeats 4000000 in
set_option maxRecDepth 100000 in
theorem c_X4_workerNumbered (l : Launch) (hlt : l.stackTraces = false) (D : va_G) (ca : Nat → ClassId) (A : Nat → Prop) (ad : Nat → Nat → Nat) (ρ : kh_S) (x1 : Int32) {q0 : String ⊕ Int32} (hF0 : f_X4_workerNumbered ρ x1 = some q0) : vx_Met l yX4_workerNumbered wsX4_workerNumbered ({ frames := 6, cells := 1, slots := 6, locals := 90 } : Room) (va_Pc [.ref (ad 0 0), .int x1] (kh_J D ca A ad ρ)) (kh_Yq D ca A ad 13 (kh_pt (f_X4_workerNumbered ρ x1) ρ)) (kh_X D ca A ad (kh_pt (f_X4_workerNumbered ρ x1) ρ)) 1 6 A := by
  refine vx_ofW (cc := cX4_workerNumbered) (maxL := 2) (ret := (some (.object "KeylessHall$Worker"))) (by decide) rfl ?_
  intro p e s m args below meth c s₁ B hml hout hv
  obtain ⟨rfl, ⟨hK, hw, hA⟩, hT⟩ := hv
  have C : kh_C p s m ([.ref (ad 0 0), .int x1]).toArray c cX4_workerNumbered 2 RX4 wsX4_workerNumbered D ca A := ⟨B.exec, B.bytes, hml, findClass_of_methodNamed B.named, atoms_spec (ws := wsX4_workerNumbered) B.pre, hK, hA⟩
  have hr := B.returns
  have hlocks := B.notSynchronized
  have hS : va_S A s.heap s.heap [] := va_S.rf
  have hl := kh_entry ([.ref (ad 0 0), .int x1]) (n := 2) (kh_ac rfl (kh_ac rfl kh_an)) (Nat.le_of_ble_eq_true rfl)
  rw [lg_entry_eq]
  generalize (lg_sl ([.ref (ad 0 0), .int x1]) ++ List.replicate (2 - (lg_sl ([.ref (ad 0 0), .int x1])).length) Slot.unset).toArray = ls at hl ⊢
  have hl : kh_lv ls 2 [(0, .ref (ad 0 0)), (1, .int x1)] := hl
  have k_29 := C.2.2.2.2.1 (.fieldLink RX4 29 "KeylessHall" "workers" "[LKeylessHall$Worker;") (by decide +kernel)
  have hF := hF0
  unfold f_X4_workerNumbered at hF
  have wL9 : ∀ (H : Heap) (locs : List Loc) (ls : Array Slot), f_X4_workerNumbered_L9 ρ = some q0 → kh_w D ca A ad ρ H → va_S A s.heap H locs → kh_lv ls 2 [] → W p l e (headSpec wsX4_workerNumbered ({ frames := 6, cells := 1, slots := 6, locals := 90 } : Room)).room s m ([.ref (ad 0 0), .int x1]).toArray below meth c H locs 0 0 (vx_MQ below (kh_Yq D ca A ad 13 (kh_pt (f_X4_workerNumbered ρ x1) ρ)) (kh_X D ca A ad (kh_pt (f_X4_workerNumbered ρ x1) ρ)) ([.ref (ad 0 0), .int x1]).toArray s 1 6 A) (F0 m 9 ls []) := by
    intro  H locs ls hF hw hS hl
    unfold f_X4_workerNumbered_L9 at hF
    exact kh_throwW C hlt hT hw hS hl.1.1 hout hlocks (ik := 68) (is := 311) (ic := 72) (text := "no such crew membe\x72") hT.2.2.2.2.2 (by decide +kernel) (by decide +kernel) kh_hg3 kh_hb3 (C.2.2.2.2.1 (.classLink RX4 68 kh_E3) (by decide +kernel)) (C.2.2.2.2.1 (.initialized kh_E3) (by decide +kernel)) dX4_workerNumbered_9 dX4_workerNumbered_12 dX4_workerNumbered_13 dX4_workerNumbered_16 dX4_workerNumbered_19 (kh_pl (hF0.trans hF.symm)) ⟨Nat.le_of_ble_eq_true rfl, Nat.le_of_ble_eq_true rfl, Nat.le_of_ble_eq_true rfl, Nat.le_of_ble_eq_true rfl⟩ ⟨Nat.le_of_ble_eq_true rfl, Nat.le_of_ble_eq_true rfl⟩
  refine lv_iload_n C.1 C.2.1 dX4_workerNumbered_0 rfl (kh_at hl 1 rfl) ?_
  refine lv_if_lt (tgt := 9) C.1 C.2.1 dX4_workerNumbered_1 (by decide) (fun c_1 => ?_) (fun c_1 => ?_)
  · have hF := kh_ift hF c_1
    exact wL9  _ _ _ hF hw hS (kh_sub hl [] rfl)
  · have hF := kh_iff hF c_1
    refine lv_iload_n C.1 C.2.1 dX4_workerNumbered_4 rfl (kh_at hl 1 rfl) ?_
    refine lv_iconst (v := (3 : Int32)) C.1 C.2.1 dX4_workerNumbered_5 (by decide) ?_
    refine lv_icmp_lt (tgt := 20) C.1 C.2.1 dX4_workerNumbered_6 (by decide) (fun c_2 => ?_) (fun c_2 => ?_)
    · have hF := kh_ift hF c_2
      refine lv_aload_n C.1 C.2.1 dX4_workerNumbered_20 rfl (kh_at hl 0 rfl) ?_
      refine kh_get C hw 0 6 rfl (kh_z0 ρ) kh_kd0 (Cn := RX4) (T := TX4) (N := 10) rfl (Nat.le_of_ble_eq_true rfl) k_29 (kf_0_6 ad ρ 0) dX4_workerNumbered_21 ?_
      refine lv_iload_n C.1 C.2.1 dX4_workerNumbered_24 rfl (kh_at hl 1 rfl) ?_
      obtain ⟨g_3, hF⟩ := kh_gd_ok hF
      refine kh_aald C hw 4 rfl (kh_z4 ρ) kh_kd4 kh_ty4 g_3 dX4_workerNumbered_25 ?_
      refine vx_ret (W.widen (k := 1) (n := 6) (Nat.le_of_ble_eq_true rfl) (Nat.le_of_ble_eq_true rfl) ?_)
      exact W.aret (v := va_rf (kh_rc ad 13 (ρ 4 0 0 x1.toNatClampNeg))) C.1 C.2.1 hr (Or.inl ⟨_, rfl⟩) (va_rf_or _) (fun t ht hW => ⟨⟨kh_rc ad 13 (ρ 4 0 0 x1.toNatClampNeg), (ρ 4 0 0 x1.toNatClampNeg, ρ), rfl, ⟨rfl, kh_pr (hF0.trans hF.symm)⟩, kh_bk ht hw⟩, hS.F ht⟩) hS.2.2 dX4_workerNumbered_26
    · have hF := kh_iff hF c_2
      exact wL9  _ _ _ hF hw hS (kh_sub hl [] rfl)

def f_X4_bookingNumbered_L12 (ρ : kh_S) : Option (String ⊕ Int32) := some (.inl kh_E3)
def f_X4_bookingNumbered (ρ : kh_S) (x1 : Int32) : Option (String ⊕ Int32) := if x1 < 0 then f_X4_bookingNumbered_L12 ρ else if x1 < (ρ 0 5 0 0) then kh_gd (kh_in x1 30) (some (.inr (ρ 3 0 0 x1.toNatClampNeg))) else f_X4_bookingNumbered_L12 ρ
set_option maxHeartbeats 4000000 in
set_option maxRecDepth 100000 in
theorem c_X4_bookingNumbered (l : Launch) (hlt : l.stackTraces = false) (D : va_G) (ca : Nat → ClassId) (A : Nat → Prop) (ad : Nat → Nat → Nat) (ρ : kh_S) (x1 : Int32) {q0 : String ⊕ Int32} (hF0 : f_X4_bookingNumbered ρ x1 = some q0) : vx_Met l yX4_bookingNumbered wsX4_bookingNumbered ({ frames := 6, cells := 1, slots := 6, locals := 90 } : Room) (va_Pc [.ref (ad 0 0), .int x1] (kh_J D ca A ad ρ)) (kh_Yq D ca A ad 14 (kh_pt (f_X4_bookingNumbered ρ x1) ρ)) (kh_X D ca A ad (kh_pt (f_X4_bookingNumbered ρ x1) ρ)) 1 6 A := by
  refine vx_ofW (cc := cX4_bookingNumbered) (maxL := 2) (ret := (some (.object "KeylessHall$Booking"))) (by decide) rfl ?_
  intro p e s m args below meth c s₁ B hml hout hv
  obtain ⟨rfl, ⟨hK, hw, hA⟩, hT⟩ := hv
  have C : kh_C p s m ([.ref (ad 0 0), .int x1]).toArray c cX4_bookingNumbered 2 RX4 wsX4_bookingNumbered D ca A := ⟨B.exec, B.bytes, hml, findClass_of_methodNamed B.named, atoms_spec (ws := wsX4_bookingNumbered) B.pre, hK, hA⟩
  have hr := B.returns
  have hlocks := B.notSynchronized
  have hS : va_S A s.heap s.heap [] := va_S.rf
  have hl := kh_entry ([.ref (ad 0 0), .int x1]) (n := 2) (kh_ac rfl (kh_ac rfl kh_an)) (Nat.le_of_ble_eq_true rfl)
  rw [lg_entry_eq]
  generalize (lg_sl ([.ref (ad 0 0), .int x1]) ++ List.replicate (2 - (lg_sl ([.ref (ad 0 0), .int x1])).length) Slot.unset).toArray = ls at hl ⊢
  have hl : kh_lv ls 2 [(0, .ref (ad 0 0)), (1, .int x1)] := hl
  have k_240 := C.2.2.2.2.1 (.fieldLink RX4 240 "KeylessHall" "bookingCount" "I") (by decide +kernel)
  have k_23 := C.2.2.2.2.1 (.fieldLink RX4 23 "KeylessHall" "bookings" "[LKeylessHall$Booking;") (by decide +kernel)
  have hF := hF0
  unfold f_X4_bookingNumbered at hF
  have wL12 : ∀ (H : Heap) (locs : List Loc) (ls : Array Slot), f_X4_bookingNumbered_L12 ρ = some q0 → kh_w D ca A ad ρ H → va_S A s.heap H locs → kh_lv ls 2 [] → W p l e (headSpec wsX4_bookingNumbered ({ frames := 6, cells := 1, slots := 6, locals := 90 } : Room)).room s m ([.ref (ad 0 0), .int x1]).toArray below meth c H locs 0 0 (vx_MQ below (kh_Yq D ca A ad 14 (kh_pt (f_X4_bookingNumbered ρ x1) ρ)) (kh_X D ca A ad (kh_pt (f_X4_bookingNumbered ρ x1) ρ)) ([.ref (ad 0 0), .int x1]).toArray s 1 6 A) (F0 m 12 ls []) := by
    intro  H locs ls hF hw hS hl
    unfold f_X4_bookingNumbered_L12 at hF
    exact kh_throwW C hlt hT hw hS hl.1.1 hout hlocks (ik := 68) (is := 313) (ic := 72) (text := "no such booking") hT.2.2.2.2.2 (by decide +kernel) (by decide +kernel) kh_hg3 kh_hb3 (C.2.2.2.2.1 (.classLink RX4 68 kh_E3) (by decide +kernel)) (C.2.2.2.2.1 (.initialized kh_E3) (by decide +kernel)) dX4_bookingNumbered_12 dX4_bookingNumbered_15 dX4_bookingNumbered_16 dX4_bookingNumbered_19 dX4_bookingNumbered_22 (kh_pl (hF0.trans hF.symm)) ⟨Nat.le_of_ble_eq_true rfl, Nat.le_of_ble_eq_true rfl, Nat.le_of_ble_eq_true rfl, Nat.le_of_ble_eq_true rfl⟩ ⟨Nat.le_of_ble_eq_true rfl, Nat.le_of_ble_eq_true rfl⟩
  refine lv_iload_n C.1 C.2.1 dX4_bookingNumbered_0 rfl (kh_at hl 1 rfl) ?_
  refine lv_if_lt (tgt := 12) C.1 C.2.1 dX4_bookingNumbered_1 (by decide) (fun c_1 => ?_) (fun c_1 => ?_)
  · have hF := kh_ift hF c_1
    exact wL12  _ _ _ hF hw hS (kh_sub hl [] rfl)
  · have hF := kh_iff hF c_1
    refine lv_iload_n C.1 C.2.1 dX4_bookingNumbered_4 rfl (kh_at hl 1 rfl) ?_
    refine lv_aload_n C.1 C.2.1 dX4_bookingNumbered_5 rfl (kh_at hl 0 rfl) ?_
    refine kh_get C hw 0 5 rfl (kh_z0 ρ) kh_kd0 (Cn := RX4) (T := TX4) (N := 10) rfl (Nat.le_of_ble_eq_true rfl) k_240 (kf_0_5 ad ρ 0) dX4_bookingNumbered_6 ?_
    refine lv_icmp_lt (tgt := 23) C.1 C.2.1 dX4_bookingNumbered_9 (by decide) (fun c_2 => ?_) (fun c_2 => ?_)
    · have hF := kh_ift hF c_2
      refine lv_aload_n C.1 C.2.1 dX4_bookingNumbered_23 rfl (kh_at hl 0 rfl) ?_
      refine kh_get C hw 0 4 rfl (kh_z0 ρ) kh_kd0 (Cn := RX4) (T := TX4) (N := 10) rfl (Nat.le_of_ble_eq_true rfl) k_23 (kf_0_4 ad ρ 0) dX4_bookingNumbered_24 ?_
      refine lv_iload_n C.1 C.2.1 dX4_bookingNumbered_27 rfl (kh_at hl 1 rfl) ?_
      obtain ⟨g_3, hF⟩ := kh_gd_ok hF
      refine kh_aald C hw 3 rfl (kh_z3 ρ) kh_kd3 kh_ty3 g_3 dX4_bookingNumbered_28 ?_
      refine vx_ret (W.widen (k := 1) (n := 6) (Nat.le_of_ble_eq_true rfl) (Nat.le_of_ble_eq_true rfl) ?_)
      exact W.aret (v := va_rf (kh_rc ad 14 (ρ 3 0 0 x1.toNatClampNeg))) C.1 C.2.1 hr (Or.inl ⟨_, rfl⟩) (va_rf_or _) (fun t ht hW => ⟨⟨kh_rc ad 14 (ρ 3 0 0 x1.toNatClampNeg), (ρ 3 0 0 x1.toNatClampNeg, ρ), rfl, ⟨rfl, kh_pr (hF0.trans hF.symm)⟩, kh_bk ht hw⟩, hS.F ht⟩) hS.2.2 dX4_bookingNumbered_29
    · have hF := kh_iff hF c_2
      exact wL12  _ _ _ hF hw hS (kh_sub hl [] rfl)

def f_X4_puzzle_L116 (ρ_116 : kh_S) : Option ((String × kh_S) ⊕ (Int32 × kh_S)) := some (.inl (kh_E2, ρ_116))
def f_X4_puzzle_L88 (ρ_88 : kh_S) : Option ((String × kh_S) ⊕ (Int32 × kh_S)) := some (.inl (kh_E1, ρ_88))
def f_X4_puzzle_L65 (ρ_65 : kh_S) : Option ((String × kh_S) ⊕ (Int32 × kh_S)) := some (.inl (kh_E1, ρ_65))
def f_X4_puzzle_L45 (ρ_45 : kh_S) : Option ((String × kh_S) ⊕ (Int32 × kh_S)) := some (.inl (kh_E1, ρ_45))
def f_X4_puzzle_L31 (ρ_31 : kh_S) (x2_31 : Int32) (x3_31 : Int32) (x4_31 : Int32) (x5_31 : Int32) (x6_31 : Int32) : Option ((String × kh_S) ⊕ (Int32 × kh_S)) := kh_bd (f_X4_areThings ρ_31 x2_31) (fun r_1 => if r_1 = 0 then f_X4_puzzle_L45 ρ_31 else kh_bd (f_X4_areThings ρ_31 x3_31) (fun r_3 => if r_3 = 0 then f_X4_puzzle_L45 ρ_31 else if x3_31 = 0 then f_X4_puzzle_L65 ρ_31 else if (x3_31 &&& x2_31) = 0 then if x5_31 < (1 : Int32) then f_X4_puzzle_L88 ρ_31 else if x5_31 ≤ (10 : Int32) then kh_gd (kh_in x6_31 (kh_n ρ_31 6)) (if (ρ_31 6 8 x6_31.toNatClampNeg 0) = 0 then if (ρ_31 6 6 x6_31.toNatClampNeg 0) < (8 : Int32) then kh_bd2 (f_X2_addPuzzle ρ_31 x6_31.toNatClampNeg x2_31 x3_31 x4_31 x5_31) (fun r_14 ρ_14 => some (.inr (r_14, ρ_14))) else f_X4_puzzle_L116 ρ_31 else f_X4_puzzle_L116 ρ_31) else f_X4_puzzle_L88 ρ_31 else f_X4_puzzle_L65 ρ_31))
def f_X4_puzzle (ρ : kh_S) (x1 : Int32) (x2 : Int32) (x3 : Int32) (x4 : Int32) (x5 : Int32) : Option ((String × kh_S) ⊕ (Int32 × kh_S)) := kh_bx (f_X4_roomNumbered ρ x1) (fun e_15 => some (.inl (e_15, ρ))) (fun r_15 => if x4 = (-1 : Int32) then f_X4_puzzle_L31 ρ x2 x3 x4 x5 r_15 else kh_bd (f_X4_isProp ρ x4) (fun r_17 => if r_17 = 0 then some (.inl (kh_E3, ρ)) else f_X4_puzzle_L31 ρ x2 x3 x4 x5 r_15))
set_option maxHeartbeats 4000000 in
set_option maxRecDepth 100000 in
theorem c_X4_puzzle (l : Launch) (hlt : l.stackTraces = false) (D : va_G) (ca : Nat → ClassId) (A : Nat → Prop) (ad : Nat → Nat → Nat) (ρ : kh_S) (x1 : Int32) (x2 : Int32) (x3 : Int32) (x4 : Int32) (x5 : Int32) {q0 : (String × kh_S) ⊕ (Int32 × kh_S)} (hF0 : f_X4_puzzle ρ x1 x2 x3 x4 x5 = some q0) : vx_Met l yX4_puzzle wsX4_puzzle ({ frames := 7, cells := 2, slots := 12, locals := 111 } : Room) (va_Pc [.ref (ad 0 0), .int x1, .int x2, .int x3, .int x4, .int x5] (kh_J D ca A ad ρ)) (kh_Yi D ca A ad (f_X4_puzzle ρ x1 x2 x3 x4 x5)) (kh_X D ca A ad (f_X4_puzzle ρ x1 x2 x3 x4 x5)) 2 12 A := by
  refine vx_ofW (cc := cX4_puzzle) (maxL := 7) (ret := (some .int)) (by decide) rfl ?_
  intro p e s m args below meth c s₁ B hml hout hv
  obtain ⟨rfl, ⟨hK, hw, hA⟩, hT⟩ := hv
  have C : kh_C p s m ([.ref (ad 0 0), .int x1, .int x2, .int x3, .int x4, .int x5]).toArray c cX4_puzzle 7 RX4 wsX4_puzzle D ca A := ⟨B.exec, B.bytes, hml, findClass_of_methodNamed B.named, atoms_spec (ws := wsX4_puzzle) B.pre, hK, hA⟩
  have hr := B.returns
  have hlocks := B.notSynchronized
  have hS : va_S A s.heap s.heap [] := va_S.rf
  have hl := kh_entry ([.ref (ad 0 0), .int x1, .int x2, .int x3, .int x4, .int x5]) (n := 7) (kh_ac rfl (kh_ac rfl (kh_ac rfl (kh_ac rfl (kh_ac rfl (kh_ac rfl kh_an)))))) (Nat.le_of_ble_eq_true rfl)
  rw [lg_entry_eq]
  generalize (lg_sl ([.ref (ad 0 0), .int x1, .int x2, .int x3, .int x4, .int x5]) ++ List.replicate (7 - (lg_sl ([.ref (ad 0 0), .int x1, .int x2, .int x3, .int x4, .int x5])).length) Slot.unset).toArray = ls at hl ⊢
  have hl : kh_lv ls 7 [(0, .ref (ad 0 0)), (1, .int x1), (2, .int x2), (3, .int x3), (4, .int x4), (5, .int x5)] := hl
  have k_77 := C.2.2.2.2.1 (.fieldLink RX4 77 "KeylessHall$Room" "how" "I") (by decide +kernel)
  have k_80 := C.2.2.2.2.1 (.fieldLink RX4 80 "KeylessHall$Room" "puzzleCount" "I") (by decide +kernel)
  have hF := hF0
  unfold f_X4_puzzle at hF
  have wL116 : ∀ (ρ_116 : kh_S) (H : Heap) (locs : List Loc) (ls : Array Slot), f_X4_puzzle_L116 ρ_116 = some q0 → kh_w D ca A ad ρ_116 H → va_S A s.heap H locs → kh_lv ls 7 [] → W p l e (headSpec wsX4_puzzle ({ frames := 7, cells := 2, slots := 12, locals := 111 } : Room)).room s m ([.ref (ad 0 0), .int x1, .int x2, .int x3, .int x4, .int x5]).toArray below meth c H locs 1 6 (vx_MQ below (kh_Yi D ca A ad (f_X4_puzzle ρ x1 x2 x3 x4 x5)) (kh_X D ca A ad (f_X4_puzzle ρ x1 x2 x3 x4 x5)) ([.ref (ad 0 0), .int x1, .int x2, .int x3, .int x4, .int x5]).toArray s 2 12 A) (F0 m 116 ls []) := by
    intro ρ_116 H locs ls hF hw hS hl
    unfold f_X4_puzzle_L116 at hF
    exact kh_throw C hlt hT hw hS hl.1.1 hout hlocks (ik := 53) (is := 83) (ic := 57) (text := "the room is not READY, or has 8 puzzles") hT.2.2.2.2.1 (by decide +kernel) (by decide +kernel) kh_hg2 kh_hb2 (C.2.2.2.2.1 (.classLink RX4 53 kh_E2) (by decide +kernel)) (C.2.2.2.2.1 (.initialized kh_E2) (by decide +kernel)) dX4_puzzle_116 dX4_puzzle_119 dX4_puzzle_120 dX4_puzzle_122 dX4_puzzle_125 (hF0.trans hF.symm) ⟨Nat.le_of_ble_eq_true rfl, Nat.le_of_ble_eq_true rfl, Nat.le_of_ble_eq_true rfl, Nat.le_of_ble_eq_true rfl⟩ ⟨Nat.le_of_ble_eq_true rfl, Nat.le_of_ble_eq_true rfl⟩
  have wL88 : ∀ (ρ_88 : kh_S) (H : Heap) (locs : List Loc) (ls : Array Slot), f_X4_puzzle_L88 ρ_88 = some q0 → kh_w D ca A ad ρ_88 H → va_S A s.heap H locs → kh_lv ls 7 [] → W p l e (headSpec wsX4_puzzle ({ frames := 7, cells := 2, slots := 12, locals := 111 } : Room)).room s m ([.ref (ad 0 0), .int x1, .int x2, .int x3, .int x4, .int x5]).toArray below meth c H locs 1 6 (vx_MQ below (kh_Yi D ca A ad (f_X4_puzzle ρ x1 x2 x3 x4 x5)) (kh_X D ca A ad (f_X4_puzzle ρ x1 x2 x3 x4 x5)) ([.ref (ad 0 0), .int x1, .int x2, .int x3, .int x4, .int x5]).toArray s 2 12 A) (F0 m 88 ls []) := by
    intro ρ_88 H locs ls hF hw hS hl
    unfold f_X4_puzzle_L88 at hF
    exact kh_throw C hlt hT hw hS hl.1.1 hout hlocks (ik := 42) (is := 75) (ic := 46) (text := "minutes are 1 to 10") hT.2.2.2.1 (by decide +kernel) (by decide +kernel) kh_hg1 kh_hb1 (C.2.2.2.2.1 (.classLink RX4 42 kh_E1) (by decide +kernel)) (C.2.2.2.2.1 (.initialized kh_E1) (by decide +kernel)) dX4_puzzle_88 dX4_puzzle_91 dX4_puzzle_92 dX4_puzzle_94 dX4_puzzle_97 (hF0.trans hF.symm) ⟨Nat.le_of_ble_eq_true rfl, Nat.le_of_ble_eq_true rfl, Nat.le_of_ble_eq_true rfl, Nat.le_of_ble_eq_true rfl⟩ ⟨Nat.le_of_ble_eq_true rfl, Nat.le_of_ble_eq_true rfl⟩
  have wL65 : ∀ (ρ_65 : kh_S) (H : Heap) (locs : List Loc) (ls : Array Slot), f_X4_puzzle_L65 ρ_65 = some q0 → kh_w D ca A ad ρ_65 H → va_S A s.heap H locs → kh_lv ls 7 [] → W p l e (headSpec wsX4_puzzle ({ frames := 7, cells := 2, slots := 12, locals := 111 } : Room)).room s m ([.ref (ad 0 0), .int x1, .int x2, .int x3, .int x4, .int x5]).toArray below meth c H locs 1 6 (vx_MQ below (kh_Yi D ca A ad (f_X4_puzzle ρ x1 x2 x3 x4 x5)) (kh_X D ca A ad (f_X4_puzzle ρ x1 x2 x3 x4 x5)) ([.ref (ad 0 0), .int x1, .int x2, .int x3, .int x4, .int x5]).toArray s 2 12 A) (F0 m 65 ls []) := by
    intro ρ_65 H locs ls hF hw hS hl
    unfold f_X4_puzzle_L65 at hF
    exact kh_throw C hlt hT hw hS hl.1.1 hout hlocks (ik := 42) (is := 73) (ic := 46) (text := "a puzzle gives things that it does not need") hT.2.2.2.1 (by decide +kernel) (by decide +kernel) kh_hg1 kh_hb1 (C.2.2.2.2.1 (.classLink RX4 42 kh_E1) (by decide +kernel)) (C.2.2.2.2.1 (.initialized kh_E1) (by decide +kernel)) dX4_puzzle_65 dX4_puzzle_68 dX4_puzzle_69 dX4_puzzle_71 dX4_puzzle_74 (hF0.trans hF.symm) ⟨Nat.le_of_ble_eq_true rfl, Nat.le_of_ble_eq_true rfl, Nat.le_of_ble_eq_true rfl, Nat.le_of_ble_eq_true rfl⟩ ⟨Nat.le_of_ble_eq_true rfl, Nat.le_of_ble_eq_true rfl⟩
  have wL45 : ∀ (ρ_45 : kh_S) (H : Heap) (locs : List Loc) (ls : Array Slot), f_X4_puzzle_L45 ρ_45 = some q0 → kh_w D ca A ad ρ_45 H → va_S A s.heap H locs → kh_lv ls 7 [] → W p l e (headSpec wsX4_puzzle ({ frames := 7, cells := 2, slots := 12, locals := 111 } : Room)).room s m ([.ref (ad 0 0), .int x1, .int x2, .int x3, .int x4, .int x5]).toArray below meth c H locs 1 6 (vx_MQ below (kh_Yi D ca A ad (f_X4_puzzle ρ x1 x2 x3 x4 x5)) (kh_X D ca A ad (f_X4_puzzle ρ x1 x2 x3 x4 x5)) ([.ref (ad 0 0), .int x1, .int x2, .int x3, .int x4, .int x5]).toArray s 2 12 A) (F0 m 45 ls []) := by
    intro ρ_45 H locs ls hF hw hS hl
    unfold f_X4_puzzle_L45 at hF
    exact kh_throw C hlt hT hw hS hl.1.1 hout hlocks (ik := 42) (is := 44) (ic := 46) (text := "things are 0 to 4095") hT.2.2.2.1 (by decide +kernel) (by decide +kernel) kh_hg1 kh_hb1 (C.2.2.2.2.1 (.classLink RX4 42 kh_E1) (by decide +kernel)) (C.2.2.2.2.1 (.initialized kh_E1) (by decide +kernel)) dX4_puzzle_45 dX4_puzzle_48 dX4_puzzle_49 dX4_puzzle_51 dX4_puzzle_54 (hF0.trans hF.symm) ⟨Nat.le_of_ble_eq_true rfl, Nat.le_of_ble_eq_true rfl, Nat.le_of_ble_eq_true rfl, Nat.le_of_ble_eq_true rfl⟩ ⟨Nat.le_of_ble_eq_true rfl, Nat.le_of_ble_eq_true rfl⟩
  have wL31 : ∀ (ρ_31 : kh_S) (x2_31 : Int32) (x3_31 : Int32) (x4_31 : Int32) (x5_31 : Int32) (x6_31 : Int32) (H : Heap) (locs : List Loc) (ls : Array Slot), f_X4_puzzle_L31 ρ_31 x2_31 x3_31 x4_31 x5_31 x6_31 = some q0 → kh_w D ca A ad ρ_31 H → va_S A s.heap H locs → kh_lv ls 7 [(2, .int x2_31), (3, .int x3_31), (4, .int x4_31), (5, .int x5_31), (6, va_rf (kh_rc ad 6 x6_31))] → W p l e (headSpec wsX4_puzzle ({ frames := 7, cells := 2, slots := 12, locals := 111 } : Room)).room s m ([.ref (ad 0 0), .int x1, .int x2, .int x3, .int x4, .int x5]).toArray below meth c H locs 1 6 (vx_MQ below (kh_Yi D ca A ad (f_X4_puzzle ρ x1 x2 x3 x4 x5)) (kh_X D ca A ad (f_X4_puzzle ρ x1 x2 x3 x4 x5)) ([.ref (ad 0 0), .int x1, .int x2, .int x3, .int x4, .int x5]).toArray s 2 12 A) (F0 m 31 ls []) := by
    intro ρ_31 x2_31 x3_31 x4_31 x5_31 x6_31 H locs ls hF hw hS hl
    unfold f_X4_puzzle_L31 at hF
    refine lv_iload_n C.1 C.2.1 dX4_puzzle_31 rfl (kh_at hl 0 rfl) ?_
    obtain ⟨r_1, h_1, hF⟩ := kh_bd_ok hF
    refine kh_calli (va_runS (As := [.int x2_31]) (rest := []) ⟨C.1, C.2.1, C.2.2.1, C.2.2.2.1, C.2.2.2.2.1⟩ (c_X4_areThings l D ca A ad ρ_31 x2_31 h_1) (va_cwS 1 C.2.2.2.2.1 gX4_puzzle_X4_areThings rfl rfl rfl (by decide +kernel) ⟨Nat.le_of_ble_eq_true rfl, Nat.le_of_ble_eq_true rfl⟩) (kh_preS C hw hS) rfl rfl hl.1.1 rfl (lv_room (kh_sum kh_an (Nat.le_of_ble_eq_true rfl))) dX4_puzzle_32 ⟨Nat.le_of_ble_eq_true rfl, Nat.le_of_ble_eq_true rfl⟩) hS (kh_mp h_1) (fun H locs hw hS => ?_)
    refine lv_if_eq (tgt := 45) C.1 C.2.1 dX4_puzzle_35 (by decide) (fun c_2 => ?_) (fun c_2 => ?_)
    · have hF := kh_ift hF c_2
      exact wL45 ρ_31 _ _ _ hF hw hS (kh_sub hl [] rfl)
    · have hF := kh_iff hF c_2
      refine lv_iload_n C.1 C.2.1 dX4_puzzle_38 rfl (kh_at hl 1 rfl) ?_
      obtain ⟨r_3, h_3, hF⟩ := kh_bd_ok hF
      refine kh_calli (va_runS (As := [.int x3_31]) (rest := []) ⟨C.1, C.2.1, C.2.2.1, C.2.2.2.1, C.2.2.2.2.1⟩ (c_X4_areThings l D ca A ad ρ_31 x3_31 h_3) (va_cwS 1 C.2.2.2.2.1 gX4_puzzle_X4_areThings rfl rfl rfl (by decide +kernel) ⟨Nat.le_of_ble_eq_true rfl, Nat.le_of_ble_eq_true rfl⟩) (kh_preS C hw hS) rfl rfl hl.1.1 rfl (lv_room (kh_sum kh_an (Nat.le_of_ble_eq_true rfl))) dX4_puzzle_39 ⟨Nat.le_of_ble_eq_true rfl, Nat.le_of_ble_eq_true rfl⟩) hS (kh_mp h_3) (fun H locs hw hS => ?_)
      refine lv_if_ne (tgt := 55) C.1 C.2.1 dX4_puzzle_42 (by decide) (fun c_4 => ?_) (fun c_4 => ?_)
      · have hF := kh_iff hF c_4
        refine lv_iload_n C.1 C.2.1 dX4_puzzle_55 rfl (kh_at hl 1 rfl) ?_
        refine lv_if_eq (tgt := 65) C.1 C.2.1 dX4_puzzle_56 (by decide) (fun c_5 => ?_) (fun c_5 => ?_)
        · have hF := kh_ift hF c_5
          exact wL65 ρ_31 _ _ _ hF hw hS (kh_sub hl [] rfl)
        · have hF := kh_iff hF c_5
          refine lv_iload_n C.1 C.2.1 dX4_puzzle_59 rfl (kh_at hl 1 rfl) ?_
          refine lv_iload_n C.1 C.2.1 dX4_puzzle_60 rfl (kh_at hl 0 rfl) ?_
          refine lv_iand C.1 C.2.1 dX4_puzzle_61 ?_
          refine lv_if_eq (tgt := 75) C.1 C.2.1 dX4_puzzle_62 (by decide) (fun c_6 => ?_) (fun c_6 => ?_)
          · have hF := kh_ift hF c_6
            refine lv_iload C.1 C.2.1 dX4_puzzle_75 (kh_at hl 3 rfl) ?_
            refine lv_iconst (v := (1 : Int32)) C.1 C.2.1 dX4_puzzle_77 (by decide) ?_
            refine lv_icmp_lt (tgt := 88) C.1 C.2.1 dX4_puzzle_78 (by decide) (fun c_7 => ?_) (fun c_7 => ?_)
            · have hF := kh_ift hF c_7
              exact wL88 ρ_31 _ _ _ hF hw hS (kh_sub hl [] rfl)
            · have hF := kh_iff hF c_7
              refine lv_iload C.1 C.2.1 dX4_puzzle_81 (kh_at hl 3 rfl) ?_
              refine lv_bipush (v := (10 : Int32)) C.1 C.2.1 dX4_puzzle_83 (by decide) ?_
              refine lv_icmp_le (tgt := 98) C.1 C.2.1 dX4_puzzle_85 (by decide) (fun c_8 => ?_) (fun c_8 => ?_)
              · have hF := kh_ift hF c_8
                refine kh_aload C.1 C.2.1 dX4_puzzle_98 (kh_at hl 4 rfl) ?_
                obtain ⟨g_9, hF⟩ := kh_gd_ok hF
                have v_10 := kh_in_lt g_9
                have r_11 := kh_rf (ad := ad) (k := 6) g_9
                refine kh_get C hw 6 8 r_11 v_10 kh_kd6 (Cn := RX2) (T := TX2) (N := 13) rfl (Nat.le_of_ble_eq_true rfl) k_77 (kf_6_8 ad ρ_31 x6_31.toNatClampNeg) dX4_puzzle_100 ?_
                refine lv_if_ne (tgt := 116) C.1 C.2.1 dX4_puzzle_103 (by decide) (fun c_12 => ?_) (fun c_12 => ?_)
                · have hF := kh_iff hF c_12
                  exact wL116 ρ_31 _ _ _ hF hw hS (kh_sub hl [] rfl)
                · have hF := kh_ift hF c_12
                  refine kh_aload C.1 C.2.1 dX4_puzzle_106 (kh_at hl 4 rfl) ?_
                  refine kh_get C hw 6 6 r_11 v_10 kh_kd6 (Cn := RX2) (T := TX2) (N := 13) rfl (Nat.le_of_ble_eq_true rfl) k_80 (kf_6_6 ad ρ_31 x6_31.toNatClampNeg) dX4_puzzle_108 ?_
                  refine lv_bipush (v := (8 : Int32)) C.1 C.2.1 dX4_puzzle_111 (by decide) ?_
                  refine lv_icmp_lt (tgt := 126) C.1 C.2.1 dX4_puzzle_113 (by decide) (fun c_13 => ?_) (fun c_13 => ?_)
                  · have hF := kh_ift hF c_13
                    refine kh_aload C.1 C.2.1 dX4_puzzle_126 (kh_at hl 4 rfl) ?_
                    refine lv_iload_n C.1 C.2.1 dX4_puzzle_128 rfl (kh_at hl 0 rfl) ?_
                    refine lv_iload_n C.1 C.2.1 dX4_puzzle_129 rfl (kh_at hl 1 rfl) ?_
                    refine lv_iload C.1 C.2.1 dX4_puzzle_130 (kh_at hl 2 rfl) ?_
                    refine lv_iload C.1 C.2.1 dX4_puzzle_132 (kh_at hl 3 rfl) ?_
                    obtain ⟨r_14, ρ_14, h_14, hF⟩ := kh_bd2_ok hF
                    refine kh_calli (va_runV (As := [.int x2_31, .int x3_31, .int x4_31, .int x5_31]) (rest := []) ⟨C.1, C.2.1, C.2.2.1, C.2.2.2.1, C.2.2.2.2.1⟩ (c_X2_addPuzzle l D ca A ad ρ_31 x6_31.toNatClampNeg x2_31 x3_31 x4_31 x5_31 h_14) (cwV 4 C.2.2.2.2.1 gX4_puzzle_X2_addPuzzle rfl rfl rfl (by decide +kernel) ⟨Nat.le_of_ble_eq_true rfl, Nat.le_of_ble_eq_true rfl⟩) (kh_preV C hw hS 6 v_10 kh_kd6 rfl) rfl rfl hl.1.1 (by show _ = _; rw [r_11]; rfl) (lv_room (kh_sum kh_an (Nat.le_of_ble_eq_true rfl))) dX4_puzzle_134 ⟨Nat.le_of_ble_eq_true rfl, Nat.le_of_ble_eq_true rfl⟩) hS h_14 (fun H locs hw hS => ?_)
                    refine vx_ret (W.widen (k := 2) (n := 12) (Nat.le_of_ble_eq_true rfl) (Nat.le_of_ble_eq_true rfl) ?_)
                    exact W.iret (v := r_14) C.1 C.2.1 hr (fun t ht hW => ⟨⟨r_14, ρ_14, rfl, hF0.trans hF.symm, kh_bk ht hw⟩, hS.F ht⟩) hS.2.2 dX4_puzzle_137
                  · have hF := kh_iff hF c_13
                    exact wL116 ρ_31 _ _ _ hF hw hS (kh_sub hl [] rfl)
              · have hF := kh_iff hF c_8
                exact wL88 ρ_31 _ _ _ hF hw hS (kh_sub hl [] rfl)
          · have hF := kh_iff hF c_6
            exact wL65 ρ_31 _ _ _ hF hw hS (kh_sub hl [] rfl)
      · have hF := kh_ift hF c_4
        exact wL45 ρ_31 _ _ _ hF hw hS (kh_sub hl [] rfl)
  refine lv_aload_n C.1 C.2.1 dX4_puzzle_0 rfl (kh_at hl 0 rfl) ?_
  refine lv_iload_n C.1 C.2.1 dX4_puzzle_1 rfl (kh_at hl 1 rfl) ?_
  rcases kh_bx_ok hF with ⟨e_15, h_15, hF⟩ | ⟨r_15, h_15, hF⟩
  · refine kh_xcallX (vx_runV (As := [.int x1]) (rest := []) ⟨C.1, C.2.1, C.2.2.1, C.2.2.2.1, C.2.2.2.2.1⟩ (c_X4_roomNumbered l hlt D ca A ad ρ x1 h_15) (cwV 1 C.2.2.2.2.1 gX4_puzzle_X4_roomNumbered rfl rfl rfl (by decide +kernel) ⟨Nat.le_of_ble_eq_true rfl, Nat.le_of_ble_eq_true rfl⟩) (kh_preVJ C hT hw hS 0 (kh_z0 ρ) kh_kd0 rfl) rfl rfl hl.1.1 rfl (lv_room (kh_sum kh_an (Nat.le_of_ble_eq_true rfl))) dX4_puzzle_2 ⟨Nat.le_of_ble_eq_true rfl, Nat.le_of_ble_eq_true rfl⟩) hS (kh_pl h_15) (kh_notYq (kh_pl h_15)) (fun H locs ce q9 hw hS h7 h8 h9 => ?_)
    exact kh_out hout hlocks h7 h8 h9 hw hS (hF0.trans hF.symm) (Nat.le_of_ble_eq_true rfl) (Nat.le_of_ble_eq_true rfl)
  refine kh_xcallq (vx_runV (As := [.int x1]) (rest := []) ⟨C.1, C.2.1, C.2.2.1, C.2.2.2.1, C.2.2.2.2.1⟩ (c_X4_roomNumbered l hlt D ca A ad ρ x1 h_15) (cwV 1 C.2.2.2.2.1 gX4_puzzle_X4_roomNumbered rfl rfl rfl (by decide +kernel) ⟨Nat.le_of_ble_eq_true rfl, Nat.le_of_ble_eq_true rfl⟩) (kh_preVJ C hT hw hS 0 (kh_z0 ρ) kh_kd0 rfl) rfl rfl hl.1.1 rfl (lv_room (kh_sum kh_an (Nat.le_of_ble_eq_true rfl))) dX4_puzzle_2 ⟨Nat.le_of_ble_eq_true rfl, Nat.le_of_ble_eq_true rfl⟩) hS (kh_pr h_15) (fun H locs hw hS => ?_)
  refine kh_astore (lv' := [(6, va_rf (kh_rc ad 6 r_15)), (0, .ref (ad 0 0)), (1, .int x1), (2, .int x2), (3, .int x3), (4, .int x4), (5, .int x5)]) C.1 C.2.1 dX4_puzzle_5 hl (by decide) rfl (fun ls hl => ?_)
  refine lv_iload C.1 C.2.1 dX4_puzzle_7 (kh_at hl 5 rfl) ?_
  refine lv_iconst (v := (-1 : Int32)) C.1 C.2.1 dX4_puzzle_9 (by decide) ?_
  refine lv_icmp_eq (tgt := 31) C.1 C.2.1 dX4_puzzle_10 (by decide) (fun c_16 => ?_) (fun c_16 => ?_)
  · have hF := kh_ift hF c_16
    exact wL31 ρ x2 x3 x4 x5 r_15 _ _ _ hF hw hS (kh_sub hl [3, 4, 5, 6, 0] rfl)
  · have hF := kh_iff hF c_16
    refine lv_iload C.1 C.2.1 dX4_puzzle_13 (kh_at hl 5 rfl) ?_
    obtain ⟨r_17, h_17, hF⟩ := kh_bd_ok hF
    refine kh_calli (va_runS (As := [.int x4]) (rest := []) ⟨C.1, C.2.1, C.2.2.1, C.2.2.2.1, C.2.2.2.2.1⟩ (c_X4_isProp l D ca A ad ρ x4 h_17) (va_cwS 1 C.2.2.2.2.1 gX4_puzzle_X4_isProp rfl rfl rfl (by decide +kernel) ⟨Nat.le_of_ble_eq_true rfl, Nat.le_of_ble_eq_true rfl⟩) (kh_preS C hw hS) rfl rfl hl.1.1 rfl (lv_room (kh_sum kh_an (Nat.le_of_ble_eq_true rfl))) dX4_puzzle_15 ⟨Nat.le_of_ble_eq_true rfl, Nat.le_of_ble_eq_true rfl⟩) hS (kh_mp h_17) (fun H locs hw hS => ?_)
    refine lv_if_ne (tgt := 31) C.1 C.2.1 dX4_puzzle_18 (by decide) (fun c_18 => ?_) (fun c_18 => ?_)
    · have hF := kh_iff hF c_18
      exact wL31 ρ x2 x3 x4 x5 r_15 _ _ _ hF hw hS (kh_sub hl [3, 4, 5, 6, 0] rfl)
    · have hF := kh_ift hF c_18
      exact kh_throw C hlt hT hw hS hl.1.1 hout hlocks (ik := 68) (is := 70) (ic := 72) (text := "props are 0 to 7, or NONE") hT.2.2.2.2.2 (by decide +kernel) (by decide +kernel) kh_hg3 kh_hb3 (C.2.2.2.2.1 (.classLink RX4 68 kh_E3) (by decide +kernel)) (C.2.2.2.2.1 (.initialized kh_E3) (by decide +kernel)) dX4_puzzle_21 dX4_puzzle_24 dX4_puzzle_25 dX4_puzzle_27 dX4_puzzle_30 (hF0.trans hF.symm) ⟨Nat.le_of_ble_eq_true rfl, Nat.le_of_ble_eq_true rfl, Nat.le_of_ble_eq_true rfl, Nat.le_of_ble_eq_true rfl⟩ ⟨Nat.le_of_ble_eq_true rfl, Nat.le_of_ble_eq_true rfl⟩

def f_X4_prop (ρ : kh_S) (x1 : Int32) (x2 : Int32) : Option ((String × kh_S) ⊕ (Int32 × kh_S)) := kh_bd (f_X4_isProp ρ x1) (fun r_1 => if r_1 = 0 then some (.inl (kh_E3, ρ)) else if x2 = 0 then kh_bd (f_X4_without ρ (ρ 0 7 0 0) x1) (fun r_4 => some (.inr ((0 : Int32), kh_up ρ 0 7 0 0 r_4))) else kh_bd (f_X4_with ρ (ρ 0 7 0 0) x1) (fun r_5 => kh_bd2 (f_X4_freeLockedIn (kh_up ρ 0 7 0 0 r_5)) (fun r_6 ρ_6 => some (.inr (r_6, ρ_6)))))
set_option maxHeartbeats 4000000 in
set_option maxRecDepth 100000 in
theorem c_X4_prop (l : Launch) (hlt : l.stackTraces = false) (D : va_G) (ca : Nat → ClassId) (A : Nat → Prop) (ad : Nat → Nat → Nat) (ρ : kh_S) (x1 : Int32) (x2 : Int32) {q0 : (String × kh_S) ⊕ (Int32 × kh_S)} (hF0 : f_X4_prop ρ x1 x2 = some q0) : vx_Met l yX4_prop wsX4_prop ({ frames := 6, cells := 1, slots := 6, locals := 92 } : Room) (va_Pc [.ref (ad 0 0), .int x1, .int x2] (kh_J D ca A ad ρ)) (kh_Yi D ca A ad (f_X4_prop ρ x1 x2)) (kh_X D ca A ad (f_X4_prop ρ x1 x2)) 1 6 A := by
  refine vx_ofW (cc := cX4_prop) (maxL := 3) (ret := (some .int)) (by decide) rfl ?_
  intro p e s m args below meth c s₁ B hml hout hv
  obtain ⟨rfl, ⟨hK, hw, hA⟩, hT⟩ := hv
  have C : kh_C p s m ([.ref (ad 0 0), .int x1, .int x2]).toArray c cX4_prop 3 RX4 wsX4_prop D ca A := ⟨B.exec, B.bytes, hml, findClass_of_methodNamed B.named, atoms_spec (ws := wsX4_prop) B.pre, hK, hA⟩
  have hr := B.returns
  have hlocks := B.notSynchronized
  have hS : va_S A s.heap s.heap [] := va_S.rf
  have hl := kh_entry ([.ref (ad 0 0), .int x1, .int x2]) (n := 3) (kh_ac rfl (kh_ac rfl (kh_ac rfl kh_an))) (Nat.le_of_ble_eq_true rfl)
  rw [lg_entry_eq]
  generalize (lg_sl ([.ref (ad 0 0), .int x1, .int x2]) ++ List.replicate (3 - (lg_sl ([.ref (ad 0 0), .int x1, .int x2])).length) Slot.unset).toArray = ls at hl ⊢
  have hl : kh_lv ls 3 [(0, .ref (ad 0 0)), (1, .int x1), (2, .int x2)] := hl
  have k_91 := C.2.2.2.2.1 (.fieldLink RX4 91 "KeylessHall" "brokenProps" "I") (by decide +kernel)
  have hF := hF0
  unfold f_X4_prop at hF
  refine lv_iload_n C.1 C.2.1 dX4_prop_0 rfl (kh_at hl 1 rfl) ?_
  obtain ⟨r_1, h_1, hF⟩ := kh_bd_ok hF
  refine kh_calli (va_runS (As := [.int x1]) (rest := []) ⟨C.1, C.2.1, C.2.2.1, C.2.2.2.1, C.2.2.2.2.1⟩ (c_X4_isProp l D ca A ad ρ x1 h_1) (va_cwS 1 C.2.2.2.2.1 gX4_prop_X4_isProp rfl rfl rfl (by decide +kernel) ⟨Nat.le_of_ble_eq_true rfl, Nat.le_of_ble_eq_true rfl⟩) (kh_preS C hw hS) rfl rfl hl.1.1 rfl (lv_room (kh_sum kh_an (Nat.le_of_ble_eq_true rfl))) dX4_prop_1 ⟨Nat.le_of_ble_eq_true rfl, Nat.le_of_ble_eq_true rfl⟩) hS (kh_mp h_1) (fun H locs hw hS => ?_)
  refine lv_if_ne (tgt := 17) C.1 C.2.1 dX4_prop_4 (by decide) (fun c_2 => ?_) (fun c_2 => ?_)
  · have hF := kh_iff hF c_2
    refine lv_iload_n C.1 C.2.1 dX4_prop_17 rfl (kh_at hl 2 rfl) ?_
    refine lv_if_eq (tgt := 38) C.1 C.2.1 dX4_prop_18 (by decide) (fun c_3 => ?_) (fun c_3 => ?_)
    · have hF := kh_ift hF c_3
      refine lv_aload_n C.1 C.2.1 dX4_prop_38 rfl (kh_at hl 0 rfl) ?_
      refine lv_aload_n C.1 C.2.1 dX4_prop_39 rfl (kh_at hl 0 rfl) ?_
      refine kh_get C hw 0 7 rfl (kh_z0 ρ) kh_kd0 (Cn := RX4) (T := TX4) (N := 10) rfl (Nat.le_of_ble_eq_true rfl) k_91 (kf_0_7 ad ρ 0) dX4_prop_40 ?_
      refine lv_iload_n C.1 C.2.1 dX4_prop_43 rfl (kh_at hl 1 rfl) ?_
      obtain ⟨r_4, h_4, hF⟩ := kh_bd_ok hF
      refine kh_calli (va_runS (As := [.int (ρ 0 7 0 0), .int x1]) (rest := [.ref (ad 0 0)]) ⟨C.1, C.2.1, C.2.2.1, C.2.2.2.1, C.2.2.2.2.1⟩ (c_X4_without l D ca A ad ρ (ρ 0 7 0 0) x1 h_4) (va_cwS 2 C.2.2.2.2.1 gX4_prop_X4_without rfl rfl rfl (by decide +kernel) ⟨Nat.le_of_ble_eq_true rfl, Nat.le_of_ble_eq_true rfl⟩) (kh_preS C hw hS) rfl rfl hl.1.1 rfl (lv_room (kh_sum (kh_ac rfl kh_an) (Nat.le_of_ble_eq_true rfl))) dX4_prop_44 ⟨Nat.le_of_ble_eq_true rfl, Nat.le_of_ble_eq_true rfl⟩) hS (kh_mp h_4) (fun H locs hw hS => ?_)
      refine kh_putI C hw hS 0 7 rfl (kh_z0 ρ) kh_kd0 (by decide) (Cn := RX4) (T := TX4) (N := 10) rfl (Nat.le_of_ble_eq_true rfl) (kq_0_7) k_91 rfl (by decide +kernel) dX4_prop_47 (fun H locs hw hS => ?_)
      refine lv_iconst (v := (0 : Int32)) C.1 C.2.1 dX4_prop_50 (by decide) ?_
      refine vx_ret (W.widen (k := 1) (n := 6) (Nat.le_of_ble_eq_true rfl) (Nat.le_of_ble_eq_true rfl) ?_)
      exact W.iret (v := (0 : Int32)) C.1 C.2.1 hr (fun t ht hW => ⟨⟨(0 : Int32), kh_up ρ 0 7 0 0 r_4, rfl, hF0.trans hF.symm, kh_bk ht hw⟩, hS.F ht⟩) hS.2.2 dX4_prop_51
    · have hF := kh_iff hF c_3
      refine lv_aload_n C.1 C.2.1 dX4_prop_21 rfl (kh_at hl 0 rfl) ?_
      refine lv_aload_n C.1 C.2.1 dX4_prop_22 rfl (kh_at hl 0 rfl) ?_
      refine kh_get C hw 0 7 rfl (kh_z0 ρ) kh_kd0 (Cn := RX4) (T := TX4) (N := 10) rfl (Nat.le_of_ble_eq_true rfl) k_91 (kf_0_7 ad ρ 0) dX4_prop_23 ?_
      refine lv_iload_n C.1 C.2.1 dX4_prop_26 rfl (kh_at hl 1 rfl) ?_
      obtain ⟨r_5, h_5, hF⟩ := kh_bd_ok hF
      refine kh_calli (va_runS (As := [.int (ρ 0 7 0 0), .int x1]) (rest := [.ref (ad 0 0)]) ⟨C.1, C.2.1, C.2.2.1, C.2.2.2.1, C.2.2.2.2.1⟩ (c_X4_with l D ca A ad ρ (ρ 0 7 0 0) x1 h_5) (va_cwS 2 C.2.2.2.2.1 gX4_prop_X4_with rfl rfl rfl (by decide +kernel) ⟨Nat.le_of_ble_eq_true rfl, Nat.le_of_ble_eq_true rfl⟩) (kh_preS C hw hS) rfl rfl hl.1.1 rfl (lv_room (kh_sum (kh_ac rfl kh_an) (Nat.le_of_ble_eq_true rfl))) dX4_prop_27 ⟨Nat.le_of_ble_eq_true rfl, Nat.le_of_ble_eq_true rfl⟩) hS (kh_mp h_5) (fun H locs hw hS => ?_)
      refine kh_putI C hw hS 0 7 rfl (kh_z0 ρ) kh_kd0 (by decide) (Cn := RX4) (T := TX4) (N := 10) rfl (Nat.le_of_ble_eq_true rfl) (kq_0_7) k_91 rfl (by decide +kernel) dX4_prop_30 (fun H locs hw hS => ?_)
      refine lv_aload_n C.1 C.2.1 dX4_prop_33 rfl (kh_at hl 0 rfl) ?_
      obtain ⟨r_6, ρ_6, h_6, hF⟩ := kh_bd2_ok hF
      refine kh_calli (va_runV (As := []) (rest := []) ⟨C.1, C.2.1, C.2.2.1, C.2.2.2.1, C.2.2.2.2.1⟩ (c_X4_freeLockedIn l D ca A ad (kh_up ρ 0 7 0 0 r_5) h_6) (cwV 0 C.2.2.2.2.1 gX4_prop_X4_freeLockedIn rfl rfl rfl (by decide +kernel) ⟨Nat.le_of_ble_eq_true rfl, Nat.le_of_ble_eq_true rfl⟩) (kh_preV C hw hS 0 (kh_z0 (kh_up ρ 0 7 0 0 r_5)) kh_kd0 rfl) rfl rfl hl.1.1 rfl (lv_room (kh_sum kh_an (Nat.le_of_ble_eq_true rfl))) dX4_prop_34 ⟨Nat.le_of_ble_eq_true rfl, Nat.le_of_ble_eq_true rfl⟩) hS h_6 (fun H locs hw hS => ?_)
      refine vx_ret (W.widen (k := 1) (n := 6) (Nat.le_of_ble_eq_true rfl) (Nat.le_of_ble_eq_true rfl) ?_)
      exact W.iret (v := r_6) C.1 C.2.1 hr (fun t ht hW => ⟨⟨r_6, ρ_6, rfl, hF0.trans hF.symm, kh_bk ht hw⟩, hS.F ht⟩) hS.2.2 dX4_prop_37
  · have hF := kh_ift hF c_2
    exact kh_throw C hlt hT hw hS hl.1.1 hout hlocks (ik := 68) (is := 89) (ic := 72) (text := "props are 0 to 7") hT.2.2.2.2.2 (by decide +kernel) (by decide +kernel) kh_hg3 kh_hb3 (C.2.2.2.2.1 (.classLink RX4 68 kh_E3) (by decide +kernel)) (C.2.2.2.2.1 (.initialized kh_E3) (by decide +kernel)) dX4_prop_7 dX4_prop_10 dX4_prop_11 dX4_prop_13 dX4_prop_16 (hF0.trans hF.symm) ⟨Nat.le_of_ble_eq_true rfl, Nat.le_of_ble_eq_true rfl, Nat.le_of_ble_eq_true rfl, Nat.le_of_ble_eq_true rfl⟩ ⟨Nat.le_of_ble_eq_true rfl, Nat.le_of_ble_eq_true rfl⟩

def f_X4_had (ρ : kh_S) (x1 : Int32) (x2 : Int32) : Option (String ⊕ Int32) := kh_bx (f_X4_roomNumbered ρ x1) (fun e_1 => some (.inl e_1)) (fun r_1 => kh_bd (f_X4_areThings ρ x2) (fun r_2 => if r_2 = 0 then some (.inl kh_E1) else kh_gd (kh_in r_1 (kh_n ρ 6)) (kh_bd (f_X2_working ρ r_1.toNatClampNeg (ρ 0 7 0 0)) (fun r_7 => kh_bd (f_X2_reach ρ r_1.toNatClampNeg x2 r_7) (fun r_8 => some (.inr r_8))))))
set_option maxHeartbeats 4000000 in
set_option maxRecDepth 100000 in
theorem c_X4_had (l : Launch) (hlt : l.stackTraces = false) (D : va_G) (ca : Nat → ClassId) (A : Nat → Prop) (ad : Nat → Nat → Nat) (ρ : kh_S) (x1 : Int32) (x2 : Int32) {q0 : String ⊕ Int32} (hF0 : f_X4_had ρ x1 x2 = some q0) : vx_Met l yX4_had wsX4_had ({ frames := 7, cells := 2, slots := 12, locals := 111 } : Room) (va_Pc [.ref (ad 0 0), .int x1, .int x2] (kh_J D ca A ad ρ)) (kh_Yi D ca A ad (kh_pt (f_X4_had ρ x1 x2) ρ)) (kh_X D ca A ad (kh_pt (f_X4_had ρ x1 x2) ρ)) 2 12 A := by
  refine vx_ofW (cc := cX4_had) (maxL := 4) (ret := (some .int)) (by decide) rfl ?_
  intro p e s m args below meth c s₁ B hml hout hv
  obtain ⟨rfl, ⟨hK, hw, hA⟩, hT⟩ := hv
  have C : kh_C p s m ([.ref (ad 0 0), .int x1, .int x2]).toArray c cX4_had 4 RX4 wsX4_had D ca A := ⟨B.exec, B.bytes, hml, findClass_of_methodNamed B.named, atoms_spec (ws := wsX4_had) B.pre, hK, hA⟩
  have hr := B.returns
  have hlocks := B.notSynchronized
  have hS : va_S A s.heap s.heap [] := va_S.rf
  have hl := kh_entry ([.ref (ad 0 0), .int x1, .int x2]) (n := 4) (kh_ac rfl (kh_ac rfl (kh_ac rfl kh_an))) (Nat.le_of_ble_eq_true rfl)
  rw [lg_entry_eq]
  generalize (lg_sl ([.ref (ad 0 0), .int x1, .int x2]) ++ List.replicate (4 - (lg_sl ([.ref (ad 0 0), .int x1, .int x2])).length) Slot.unset).toArray = ls at hl ⊢
  have hl : kh_lv ls 4 [(0, .ref (ad 0 0)), (1, .int x1), (2, .int x2)] := hl
  have k_91 := C.2.2.2.2.1 (.fieldLink RX4 91 "KeylessHall" "brokenProps" "I") (by decide +kernel)
  have hF := hF0
  unfold f_X4_had at hF
  refine lv_aload_n C.1 C.2.1 dX4_had_0 rfl (kh_at hl 0 rfl) ?_
  refine lv_iload_n C.1 C.2.1 dX4_had_1 rfl (kh_at hl 1 rfl) ?_
  rcases kh_bx_ok hF with ⟨e_1, h_1, hF⟩ | ⟨r_1, h_1, hF⟩
  · refine kh_xcallX (vx_runV (As := [.int x1]) (rest := []) ⟨C.1, C.2.1, C.2.2.1, C.2.2.2.1, C.2.2.2.2.1⟩ (c_X4_roomNumbered l hlt D ca A ad ρ x1 h_1) (cwV 1 C.2.2.2.2.1 gX4_had_X4_roomNumbered rfl rfl rfl (by decide +kernel) ⟨Nat.le_of_ble_eq_true rfl, Nat.le_of_ble_eq_true rfl⟩) (kh_preVJ C hT hw hS 0 (kh_z0 ρ) kh_kd0 rfl) rfl rfl hl.1.1 rfl (lv_room (kh_sum kh_an (Nat.le_of_ble_eq_true rfl))) dX4_had_2 ⟨Nat.le_of_ble_eq_true rfl, Nat.le_of_ble_eq_true rfl⟩) hS (kh_pl h_1) (kh_notYq (kh_pl h_1)) (fun H locs ce q9 hw hS h7 h8 h9 => ?_)
    exact kh_out hout hlocks h7 h8 h9 hw hS (kh_pl (hF0.trans hF.symm)) (Nat.le_of_ble_eq_true rfl) (Nat.le_of_ble_eq_true rfl)
  refine kh_xcallq (vx_runV (As := [.int x1]) (rest := []) ⟨C.1, C.2.1, C.2.2.1, C.2.2.2.1, C.2.2.2.2.1⟩ (c_X4_roomNumbered l hlt D ca A ad ρ x1 h_1) (cwV 1 C.2.2.2.2.1 gX4_had_X4_roomNumbered rfl rfl rfl (by decide +kernel) ⟨Nat.le_of_ble_eq_true rfl, Nat.le_of_ble_eq_true rfl⟩) (kh_preVJ C hT hw hS 0 (kh_z0 ρ) kh_kd0 rfl) rfl rfl hl.1.1 rfl (lv_room (kh_sum kh_an (Nat.le_of_ble_eq_true rfl))) dX4_had_2 ⟨Nat.le_of_ble_eq_true rfl, Nat.le_of_ble_eq_true rfl⟩) hS (kh_pr h_1) (fun H locs hw hS => ?_)
  refine kh_astore_n (lv' := [(3, va_rf (kh_rc ad 6 r_1)), (0, .ref (ad 0 0)), (1, .int x1), (2, .int x2)]) C.1 C.2.1 dX4_had_5 rfl hl (by decide) rfl (fun ls hl => ?_)
  refine lv_iload_n C.1 C.2.1 dX4_had_6 rfl (kh_at hl 3 rfl) ?_
  obtain ⟨r_2, h_2, hF⟩ := kh_bd_ok hF
  refine kh_calli (va_runS (As := [.int x2]) (rest := []) ⟨C.1, C.2.1, C.2.2.1, C.2.2.2.1, C.2.2.2.2.1⟩ (c_X4_areThings l D ca A ad ρ x2 h_2) (va_cwS 1 C.2.2.2.2.1 gX4_had_X4_areThings rfl rfl rfl (by decide +kernel) ⟨Nat.le_of_ble_eq_true rfl, Nat.le_of_ble_eq_true rfl⟩) (kh_preS C hw hS) rfl rfl hl.1.1 rfl (lv_room (kh_sum kh_an (Nat.le_of_ble_eq_true rfl))) dX4_had_7 ⟨Nat.le_of_ble_eq_true rfl, Nat.le_of_ble_eq_true rfl⟩) hS (kh_mp h_2) (fun H locs hw hS => ?_)
  refine lv_if_ne (tgt := 23) C.1 C.2.1 dX4_had_10 (by decide) (fun c_3 => ?_) (fun c_3 => ?_)
  · have hF := kh_iff hF c_3
    refine kh_aload_n C.1 C.2.1 dX4_had_23 rfl (kh_at hl 0 rfl) ?_
    refine lv_iload_n C.1 C.2.1 dX4_had_24 rfl (kh_at hl 3 rfl) ?_
    refine kh_aload_n C.1 C.2.1 dX4_had_25 rfl (kh_at hl 0 rfl) ?_
    refine lv_aload_n C.1 C.2.1 dX4_had_26 rfl (kh_at hl 1 rfl) ?_
    refine kh_get C hw 0 7 rfl (kh_z0 ρ) kh_kd0 (Cn := RX4) (T := TX4) (N := 10) rfl (Nat.le_of_ble_eq_true rfl) k_91 (kf_0_7 ad ρ 0) dX4_had_27 ?_
    obtain ⟨g_4, hF⟩ := kh_gd_ok hF
    have v_5 := kh_in_lt g_4
    have r_6 := kh_rf (ad := ad) (k := 6) g_4
    obtain ⟨r_7, h_7, hF⟩ := kh_bd_ok hF
    refine kh_calli (va_runV (As := [.int (ρ 0 7 0 0)]) (rest := [.int x2, va_rf (kh_rc ad 6 r_1)]) ⟨C.1, C.2.1, C.2.2.1, C.2.2.2.1, C.2.2.2.2.1⟩ (c_X2_working l D ca A ad ρ r_1.toNatClampNeg (ρ 0 7 0 0) h_7) (cwV 1 C.2.2.2.2.1 gX4_had_X2_working rfl rfl rfl (by decide +kernel) ⟨Nat.le_of_ble_eq_true rfl, Nat.le_of_ble_eq_true rfl⟩) (kh_preV C hw hS 6 v_5 kh_kd6 rfl) rfl rfl hl.1.1 (by show _ = _; rw [r_6]; rfl) (lv_room (kh_sum (kh_ac rfl (kh_ac (kh_c1 _) kh_an)) (Nat.le_of_ble_eq_true rfl))) dX4_had_30 ⟨Nat.le_of_ble_eq_true rfl, Nat.le_of_ble_eq_true rfl⟩) hS (kh_mp h_7) (fun H locs hw hS => ?_)
    obtain ⟨r_8, h_8, hF⟩ := kh_bd_ok hF
    refine kh_calli (va_runV (As := [.int x2, .int r_7]) (rest := []) ⟨C.1, C.2.1, C.2.2.1, C.2.2.2.1, C.2.2.2.2.1⟩ (c_X2_reach l D ca A ad ρ r_1.toNatClampNeg x2 r_7 h_8) (cwV 2 C.2.2.2.2.1 gX4_had_X2_reach rfl rfl rfl (by decide +kernel) ⟨Nat.le_of_ble_eq_true rfl, Nat.le_of_ble_eq_true rfl⟩) (kh_preV C hw hS 6 v_5 kh_kd6 rfl) rfl rfl hl.1.1 (by show _ = _; rw [r_6]; rfl) (lv_room (kh_sum kh_an (Nat.le_of_ble_eq_true rfl))) dX4_had_33 ⟨Nat.le_of_ble_eq_true rfl, Nat.le_of_ble_eq_true rfl⟩) hS (kh_mp h_8) (fun H locs hw hS => ?_)
    refine vx_ret (W.widen (k := 2) (n := 12) (Nat.le_of_ble_eq_true rfl) (Nat.le_of_ble_eq_true rfl) ?_)
    exact W.iret (v := r_8) C.1 C.2.1 hr (fun t ht hW => ⟨⟨r_8, ρ, rfl, kh_pr (hF0.trans hF.symm), kh_bk ht hw⟩, hS.F ht⟩) hS.2.2 dX4_had_36
  · have hF := kh_ift hF c_3
    exact kh_throw C hlt hT hw hS hl.1.1 hout hlocks (ik := 42) (is := 44) (ic := 46) (text := "things are 0 to 4095") hT.2.2.2.1 (by decide +kernel) (by decide +kernel) kh_hg1 kh_hb1 (C.2.2.2.2.1 (.classLink RX4 42 kh_E1) (by decide +kernel)) (C.2.2.2.2.1 (.initialized kh_E1) (by decide +kernel)) dX4_had_13 dX4_had_16 dX4_had_17 dX4_had_19 dX4_had_22 (kh_pl (hF0.trans hF.symm)) ⟨Nat.le_of_ble_eq_true rfl, Nat.le_of_ble_eq_true rfl, Nat.le_of_ble_eq_true rfl, Nat.le_of_ble_eq_true rfl⟩ ⟨Nat.le_of_ble_eq_true rfl, Nat.le_of_ble_eq_true rfl⟩

def f_X4_canBeLeft (ρ : kh_S) (x1 : Int32) : Option (String ⊕ Int32) := kh_bx (f_X4_roomNumbered ρ x1) (fun e_1 => some (.inl e_1)) (fun r_1 => kh_bd (f_X4_hasExit ρ r_1) (fun r_2 => kh_gd (kh_b r_2) (some (.inr r_2))))
set_option maxHeartbeats 4000000 in
set_option maxRecDepth 100000 in
theorem c_X4_canBeLeft (l : Launch) (hlt : l.stackTraces = false) (D : va_G) (ca : Nat → ClassId) (A : Nat → Prop) (ad : Nat → Nat → Nat) (ρ : kh_S) (x1 : Int32) {q0 : String ⊕ Int32} (hF0 : f_X4_canBeLeft ρ x1 = some q0) : vx_Met l yX4_canBeLeft wsX4_canBeLeft ({ frames := 7, cells := 1, slots := 6, locals := 111 } : Room) (va_Pc [.ref (ad 0 0), .int x1] (kh_J D ca A ad ρ)) (kh_Yi D ca A ad (kh_pt (f_X4_canBeLeft ρ x1) ρ)) (kh_X D ca A ad (kh_pt (f_X4_canBeLeft ρ x1) ρ)) 1 6 A := by
  refine vx_ofW (cc := cX4_canBeLeft) (maxL := 2) (ret := (some .boolean)) (by decide) rfl ?_
  intro p e s m args below meth c s₁ B hml hout hv
  obtain ⟨rfl, ⟨hK, hw, hA⟩, hT⟩ := hv
  have C : kh_C p s m ([.ref (ad 0 0), .int x1]).toArray c cX4_canBeLeft 2 RX4 wsX4_canBeLeft D ca A := ⟨B.exec, B.bytes, hml, findClass_of_methodNamed B.named, atoms_spec (ws := wsX4_canBeLeft) B.pre, hK, hA⟩
  have hr := B.returns
  have hlocks := B.notSynchronized
  have hS : va_S A s.heap s.heap [] := va_S.rf
  have hl := kh_entry ([.ref (ad 0 0), .int x1]) (n := 2) (kh_ac rfl (kh_ac rfl kh_an)) (Nat.le_of_ble_eq_true rfl)
  rw [lg_entry_eq]
  generalize (lg_sl ([.ref (ad 0 0), .int x1]) ++ List.replicate (2 - (lg_sl ([.ref (ad 0 0), .int x1])).length) Slot.unset).toArray = ls at hl ⊢
  have hl : kh_lv ls 2 [(0, .ref (ad 0 0)), (1, .int x1)] := hl
  have hF := hF0
  unfold f_X4_canBeLeft at hF
  refine lv_aload_n C.1 C.2.1 dX4_canBeLeft_0 rfl (kh_at hl 0 rfl) ?_
  refine lv_aload_n C.1 C.2.1 dX4_canBeLeft_1 rfl (kh_at hl 0 rfl) ?_
  refine lv_iload_n C.1 C.2.1 dX4_canBeLeft_2 rfl (kh_at hl 1 rfl) ?_
  rcases kh_bx_ok hF with ⟨e_1, h_1, hF⟩ | ⟨r_1, h_1, hF⟩
  · refine kh_xcallX (vx_runV (As := [.int x1]) (rest := [.ref (ad 0 0)]) ⟨C.1, C.2.1, C.2.2.1, C.2.2.2.1, C.2.2.2.2.1⟩ (c_X4_roomNumbered l hlt D ca A ad ρ x1 h_1) (cwV 1 C.2.2.2.2.1 gX4_canBeLeft_X4_roomNumbered rfl rfl rfl (by decide +kernel) ⟨Nat.le_of_ble_eq_true rfl, Nat.le_of_ble_eq_true rfl⟩) (kh_preVJ C hT hw hS 0 (kh_z0 ρ) kh_kd0 rfl) rfl rfl hl.1.1 rfl (lv_room (kh_sum (kh_ac rfl kh_an) (Nat.le_of_ble_eq_true rfl))) dX4_canBeLeft_3 ⟨Nat.le_of_ble_eq_true rfl, Nat.le_of_ble_eq_true rfl⟩) hS (kh_pl h_1) (kh_notYq (kh_pl h_1)) (fun H locs ce q9 hw hS h7 h8 h9 => ?_)
    exact kh_out hout hlocks h7 h8 h9 hw hS (kh_pl (hF0.trans hF.symm)) (Nat.le_of_ble_eq_true rfl) (Nat.le_of_ble_eq_true rfl)
  refine kh_xcallq (vx_runV (As := [.int x1]) (rest := [.ref (ad 0 0)]) ⟨C.1, C.2.1, C.2.2.1, C.2.2.2.1, C.2.2.2.2.1⟩ (c_X4_roomNumbered l hlt D ca A ad ρ x1 h_1) (cwV 1 C.2.2.2.2.1 gX4_canBeLeft_X4_roomNumbered rfl rfl rfl (by decide +kernel) ⟨Nat.le_of_ble_eq_true rfl, Nat.le_of_ble_eq_true rfl⟩) (kh_preVJ C hT hw hS 0 (kh_z0 ρ) kh_kd0 rfl) rfl rfl hl.1.1 rfl (lv_room (kh_sum (kh_ac rfl kh_an) (Nat.le_of_ble_eq_true rfl))) dX4_canBeLeft_3 ⟨Nat.le_of_ble_eq_true rfl, Nat.le_of_ble_eq_true rfl⟩) hS (kh_pr h_1) (fun H locs hw hS => ?_)
  obtain ⟨r_2, h_2, hF⟩ := kh_bd_ok hF
  refine kh_calli (va_runV (As := [va_rf (kh_rc ad 6 r_1)]) (rest := []) ⟨C.1, C.2.1, C.2.2.1, C.2.2.2.1, C.2.2.2.2.1⟩ (c_X4_hasExit l D ca A ad ρ r_1 h_2) (cwV 1 C.2.2.2.2.1 gX4_canBeLeft_X4_hasExit rfl rfl rfl (by decide +kernel) ⟨Nat.le_of_ble_eq_true rfl, Nat.le_of_ble_eq_true rfl⟩) (kh_preV C hw hS 0 (kh_z0 ρ) kh_kd0 rfl) rfl rfl hl.1.1 rfl (lv_room (kh_sum kh_an (Nat.le_of_ble_eq_true rfl))) dX4_canBeLeft_6 ⟨Nat.le_of_ble_eq_true rfl, Nat.le_of_ble_eq_true rfl⟩) hS (kh_mp h_2) (fun H locs hw hS => ?_)
  obtain ⟨g_3, hF⟩ := kh_gd_ok hF
  refine vx_ret (W.widen (k := 1) (n := 6) (Nat.le_of_ble_eq_true rfl) (Nat.le_of_ble_eq_true rfl) ?_)
  exact W.zret (v := r_2) (ty := .boolean) C.1 C.2.1 hr (kh_b_ok g_3).1 (fun t ht hW => ⟨⟨r_2, ρ, rfl, kh_pr (hF0.trans hF.symm), kh_bk ht hw⟩, hS.F ht⟩) hS.2.2 dX4_canBeLeft_9

def f_X4_orders (ρ : kh_S) (x1 : Int32) : Option ((String × kh_S) ⊕ (Int32 × kh_S)) := kh_bx (f_X4_roomNumbered ρ x1) (fun e_1 => some (.inl (e_1, ρ))) (fun r_1 => kh_bd2 (f_X4_countOrdersBySets ρ r_1) (fun r_2 ρ_2 => some (.inr (r_2, ρ_2))))
set_option maxHeartbeats 4000000 in
set_option maxRecDepth 100000 in
theorem c_X4_orders (l : Launch) (hlt : l.stackTraces = false) (D : va_G) (ca : Nat → ClassId) (A : Nat → Prop) (ad : Nat → Nat → Nat) (ρ : kh_S) (x1 : Int32) {q0 : (String × kh_S) ⊕ (Int32 × kh_S)} (hF0 : f_X4_orders ρ x1 = some q0) : vx_Met l yX4_orders wsX4_orders ({ frames := 7, cells := 1, slots := 6, locals := 111 } : Room) (va_Pc [.ref (ad 0 0), .int x1] (kh_J D ca A ad ρ)) (kh_Yi D ca A ad (f_X4_orders ρ x1)) (kh_X D ca A ad (f_X4_orders ρ x1)) 1 6 A := by
  refine vx_ofW (cc := cX4_orders) (maxL := 2) (ret := (some .int)) (by decide) rfl ?_
  intro p e s m args below meth c s₁ B hml hout hv
  obtain ⟨rfl, ⟨hK, hw, hA⟩, hT⟩ := hv
  have C : kh_C p s m ([.ref (ad 0 0), .int x1]).toArray c cX4_orders 2 RX4 wsX4_orders D ca A := ⟨B.exec, B.bytes, hml, findClass_of_methodNamed B.named, atoms_spec (ws := wsX4_orders) B.pre, hK, hA⟩
  have hr := B.returns
  have hlocks := B.notSynchronized
  have hS : va_S A s.heap s.heap [] := va_S.rf
  have hl := kh_entry ([.ref (ad 0 0), .int x1]) (n := 2) (kh_ac rfl (kh_ac rfl kh_an)) (Nat.le_of_ble_eq_true rfl)
  rw [lg_entry_eq]
  generalize (lg_sl ([.ref (ad 0 0), .int x1]) ++ List.replicate (2 - (lg_sl ([.ref (ad 0 0), .int x1])).length) Slot.unset).toArray = ls at hl ⊢
  have hl : kh_lv ls 2 [(0, .ref (ad 0 0)), (1, .int x1)] := hl
  have hF := hF0
  unfold f_X4_orders at hF
  refine lv_aload_n C.1 C.2.1 dX4_orders_0 rfl (kh_at hl 0 rfl) ?_
  refine lv_aload_n C.1 C.2.1 dX4_orders_1 rfl (kh_at hl 0 rfl) ?_
  refine lv_iload_n C.1 C.2.1 dX4_orders_2 rfl (kh_at hl 1 rfl) ?_
  rcases kh_bx_ok hF with ⟨e_1, h_1, hF⟩ | ⟨r_1, h_1, hF⟩
  · refine kh_xcallX (vx_runV (As := [.int x1]) (rest := [.ref (ad 0 0)]) ⟨C.1, C.2.1, C.2.2.1, C.2.2.2.1, C.2.2.2.2.1⟩ (c_X4_roomNumbered l hlt D ca A ad ρ x1 h_1) (cwV 1 C.2.2.2.2.1 gX4_orders_X4_roomNumbered rfl rfl rfl (by decide +kernel) ⟨Nat.le_of_ble_eq_true rfl, Nat.le_of_ble_eq_true rfl⟩) (kh_preVJ C hT hw hS 0 (kh_z0 ρ) kh_kd0 rfl) rfl rfl hl.1.1 rfl (lv_room (kh_sum (kh_ac rfl kh_an) (Nat.le_of_ble_eq_true rfl))) dX4_orders_3 ⟨Nat.le_of_ble_eq_true rfl, Nat.le_of_ble_eq_true rfl⟩) hS (kh_pl h_1) (kh_notYq (kh_pl h_1)) (fun H locs ce q9 hw hS h7 h8 h9 => ?_)
    exact kh_out hout hlocks h7 h8 h9 hw hS (hF0.trans hF.symm) (Nat.le_of_ble_eq_true rfl) (Nat.le_of_ble_eq_true rfl)
  refine kh_xcallq (vx_runV (As := [.int x1]) (rest := [.ref (ad 0 0)]) ⟨C.1, C.2.1, C.2.2.1, C.2.2.2.1, C.2.2.2.2.1⟩ (c_X4_roomNumbered l hlt D ca A ad ρ x1 h_1) (cwV 1 C.2.2.2.2.1 gX4_orders_X4_roomNumbered rfl rfl rfl (by decide +kernel) ⟨Nat.le_of_ble_eq_true rfl, Nat.le_of_ble_eq_true rfl⟩) (kh_preVJ C hT hw hS 0 (kh_z0 ρ) kh_kd0 rfl) rfl rfl hl.1.1 rfl (lv_room (kh_sum (kh_ac rfl kh_an) (Nat.le_of_ble_eq_true rfl))) dX4_orders_3 ⟨Nat.le_of_ble_eq_true rfl, Nat.le_of_ble_eq_true rfl⟩) hS (kh_pr h_1) (fun H locs hw hS => ?_)
  obtain ⟨r_2, ρ_2, h_2, hF⟩ := kh_bd2_ok hF
  refine kh_calli (va_runV (As := [va_rf (kh_rc ad 6 r_1)]) (rest := []) ⟨C.1, C.2.1, C.2.2.1, C.2.2.2.1, C.2.2.2.2.1⟩ (c_X4_countOrdersBySets l D ca A ad ρ r_1 h_2) (cwV 1 C.2.2.2.2.1 gX4_orders_X4_countOrdersBySets rfl rfl rfl (by decide +kernel) ⟨Nat.le_of_ble_eq_true rfl, Nat.le_of_ble_eq_true rfl⟩) (kh_preV C hw hS 0 (kh_z0 ρ) kh_kd0 rfl) rfl rfl hl.1.1 rfl (lv_room (kh_sum kh_an (Nat.le_of_ble_eq_true rfl))) dX4_orders_6 ⟨Nat.le_of_ble_eq_true rfl, Nat.le_of_ble_eq_true rfl⟩) hS h_2 (fun H locs hw hS => ?_)
  refine vx_ret (W.widen (k := 1) (n := 6) (Nat.le_of_ble_eq_true rfl) (Nat.le_of_ble_eq_true rfl) ?_)
  exact W.iret (v := r_2) C.1 C.2.1 hr (fun t ht hW => ⟨⟨r_2, ρ_2, rfl, hF0.trans hF.symm, kh_bk ht hw⟩, hS.F ht⟩) hS.2.2 dX4_orders_9

def f_X4_solve_L67 (ρ_67 : kh_S) : Option ((String × kh_S) ⊕ (Int32 × kh_S)) := some (.inl (kh_E2, ρ_67))
def f_X4_solve_L25 (ρ_25 : kh_S) : Option ((String × kh_S) ⊕ (Int32 × kh_S)) := some (.inl (kh_E3, ρ_25))
def f_X4_solve (ρ : kh_S) (x1 : Int32) (x2 : Int32) : Option ((String × kh_S) ⊕ (Int32 × kh_S)) := kh_bx (f_X4_groupNumbered ρ x1) (fun e_1 => some (.inl (e_1, ρ))) (fun r_1 => kh_gd (kh_in r_1 (kh_n ρ 11)) (if x2 < 0 then f_X4_solve_L25 ρ else kh_gd (kh_in (ρ 11 1 r_1.toNatClampNeg 0) (kh_n ρ 6)) (if x2 < (ρ 6 6 ((ρ 11 1 r_1.toNatClampNeg 0).toNatClampNeg) 0) then if (ρ 11 6 r_1.toNatClampNeg 0) = 0 then kh_bd (f_X4_openTo ρ r_1) (fun r_11 => kh_bd (f_X4_has ρ r_11 x2) (fun r_12 => if r_12 = 0 then f_X4_solve_L67 ρ else kh_bd (f_X2_isSolvable ρ ((ρ 11 1 r_1.toNatClampNeg 0).toNatClampNeg) x2 (ρ 11 8 r_1.toNatClampNeg 0)) (fun r_14 => if r_14 = 0 then f_X4_solve_L67 ρ else kh_bd (f_X4_with ρ (ρ 11 7 r_1.toNatClampNeg 0) x2) (fun r_16 => kh_gd (kh_in x2 8) (kh_bd (f_X4_leaveIfOut (kh_up (kh_up ρ 11 7 r_1.toNatClampNeg 0 r_16) 11 8 r_1.toNatClampNeg 0 (((kh_up ρ 11 7 r_1.toNatClampNeg 0 r_16) 11 8 r_1.toNatClampNeg 0) ||| ((kh_up ρ 11 7 r_1.toNatClampNeg 0 r_16) 8 0 ((ρ 11 1 r_1.toNatClampNeg 0).toNatClampNeg) x2.toNatClampNeg))) r_1) (fun ρ_18 => kh_gd (kh_in r_1 (kh_n ρ_18 11)) (some (.inr (ρ_18 11 8 r_1.toNatClampNeg 0, ρ_18))))))))) else f_X4_solve_L67 ρ else f_X4_solve_L25 ρ)))
set_option maxHeartbeats 4000000 in
set_option maxRecDepth 100000 in
theorem c_X4_solve (l : Launch) (hlt : l.stackTraces = false) (D : va_G) (ca : Nat → ClassId) (A : Nat → Prop) (ad : Nat → Nat → Nat) (ρ : kh_S) (x1 : Int32) (x2 : Int32) {q0 : (String × kh_S) ⊕ (Int32 × kh_S)} (hF0 : f_X4_solve ρ x1 x2 = some q0) : vx_Met l yX4_solve wsX4_solve ({ frames := 7, cells := 2, slots := 12, locals := 111 } : Room) (va_Pc [.ref (ad 0 0), .int x1, .int x2] (kh_J D ca A ad ρ)) (kh_Yi D ca A ad (f_X4_solve ρ x1 x2)) (kh_X D ca A ad (f_X4_solve ρ x1 x2)) 2 12 A := by
  refine vx_ofW (cc := cX4_solve) (maxL := 5) (ret := (some .int)) (by decide) rfl ?_
  intro p e s m args below meth c s₁ B hml hout hv
  obtain ⟨rfl, ⟨hK, hw, hA⟩, hT⟩ := hv
  have C : kh_C p s m ([.ref (ad 0 0), .int x1, .int x2]).toArray c cX4_solve 5 RX4 wsX4_solve D ca A := ⟨B.exec, B.bytes, hml, findClass_of_methodNamed B.named, atoms_spec (ws := wsX4_solve) B.pre, hK, hA⟩
  have hr := B.returns
  have hlocks := B.notSynchronized
  have hS : va_S A s.heap s.heap [] := va_S.rf
  have hl := kh_entry ([.ref (ad 0 0), .int x1, .int x2]) (n := 5) (kh_ac rfl (kh_ac rfl (kh_ac rfl kh_an))) (Nat.le_of_ble_eq_true rfl)
  rw [lg_entry_eq]
  generalize (lg_sl ([.ref (ad 0 0), .int x1, .int x2]) ++ List.replicate (5 - (lg_sl ([.ref (ad 0 0), .int x1, .int x2])).length) Slot.unset).toArray = ls at hl ⊢
  have hl : kh_lv ls 5 [(0, .ref (ad 0 0)), (1, .int x1), (2, .int x2)] := hl
  have k_155 := C.2.2.2.2.1 (.fieldLink RX4 155 "KeylessHall$Group" "place" "LKeylessHall$Room;") (by decide +kernel)
  have k_80 := C.2.2.2.2.1 (.fieldLink RX4 80 "KeylessHall$Room" "puzzleCount" "I") (by decide +kernel)
  have k_161 := C.2.2.2.2.1 (.fieldLink RX4 161 "KeylessHall$Group" "how" "I") (by decide +kernel)
  have k_166 := C.2.2.2.2.1 (.fieldLink RX4 166 "KeylessHall$Group" "held" "I") (by decide +kernel)
  have k_174 := C.2.2.2.2.1 (.fieldLink RX4 174 "KeylessHall$Group" "solved" "I") (by decide +kernel)
  have k_177 := C.2.2.2.2.1 (.fieldLink RX4 177 "KeylessHall$Room" "gives" "[I") (by decide +kernel)
  have hF := hF0
  unfold f_X4_solve at hF
  have wL67 : ∀ (ρ_67 : kh_S) (H : Heap) (locs : List Loc) (ls : Array Slot), f_X4_solve_L67 ρ_67 = some q0 → kh_w D ca A ad ρ_67 H → va_S A s.heap H locs → kh_lv ls 5 [] → W p l e (headSpec wsX4_solve ({ frames := 7, cells := 2, slots := 12, locals := 111 } : Room)).room s m ([.ref (ad 0 0), .int x1, .int x2]).toArray below meth c H locs 1 6 (vx_MQ below (kh_Yi D ca A ad (f_X4_solve ρ x1 x2)) (kh_X D ca A ad (f_X4_solve ρ x1 x2)) ([.ref (ad 0 0), .int x1, .int x2]).toArray s 2 12 A) (F0 m 67 ls []) := by
    intro ρ_67 H locs ls hF hw hS hl
    unfold f_X4_solve_L67 at hF
    exact kh_throw C hlt hT hw hS hl.1.1 hout hlocks (ik := 53) (is := 172) (ic := 57) (text := "the group does not play, or may not solve that") hT.2.2.2.2.1 (by decide +kernel) (by decide +kernel) kh_hg2 kh_hb2 (C.2.2.2.2.1 (.classLink RX4 53 kh_E2) (by decide +kernel)) (C.2.2.2.2.1 (.initialized kh_E2) (by decide +kernel)) dX4_solve_67 dX4_solve_70 dX4_solve_71 dX4_solve_73 dX4_solve_76 (hF0.trans hF.symm) ⟨Nat.le_of_ble_eq_true rfl, Nat.le_of_ble_eq_true rfl, Nat.le_of_ble_eq_true rfl, Nat.le_of_ble_eq_true rfl⟩ ⟨Nat.le_of_ble_eq_true rfl, Nat.le_of_ble_eq_true rfl⟩
  have wL25 : ∀ (ρ_25 : kh_S) (H : Heap) (locs : List Loc) (ls : Array Slot), f_X4_solve_L25 ρ_25 = some q0 → kh_w D ca A ad ρ_25 H → va_S A s.heap H locs → kh_lv ls 5 [] → W p l e (headSpec wsX4_solve ({ frames := 7, cells := 2, slots := 12, locals := 111 } : Room)).room s m ([.ref (ad 0 0), .int x1, .int x2]).toArray below meth c H locs 1 6 (vx_MQ below (kh_Yi D ca A ad (f_X4_solve ρ x1 x2)) (kh_X D ca A ad (f_X4_solve ρ x1 x2)) ([.ref (ad 0 0), .int x1, .int x2]).toArray s 2 12 A) (F0 m 25 ls []) := by
    intro ρ_25 H locs ls hF hw hS hl
    unfold f_X4_solve_L25 at hF
    exact kh_throw C hlt hT hw hS hl.1.1 hout hlocks (ik := 68) (is := 159) (ic := 72) (text := "no such puzzle") hT.2.2.2.2.2 (by decide +kernel) (by decide +kernel) kh_hg3 kh_hb3 (C.2.2.2.2.1 (.classLink RX4 68 kh_E3) (by decide +kernel)) (C.2.2.2.2.1 (.initialized kh_E3) (by decide +kernel)) dX4_solve_25 dX4_solve_28 dX4_solve_29 dX4_solve_31 dX4_solve_34 (hF0.trans hF.symm) ⟨Nat.le_of_ble_eq_true rfl, Nat.le_of_ble_eq_true rfl, Nat.le_of_ble_eq_true rfl, Nat.le_of_ble_eq_true rfl⟩ ⟨Nat.le_of_ble_eq_true rfl, Nat.le_of_ble_eq_true rfl⟩
  refine lv_aload_n C.1 C.2.1 dX4_solve_0 rfl (kh_at hl 0 rfl) ?_
  refine lv_iload_n C.1 C.2.1 dX4_solve_1 rfl (kh_at hl 1 rfl) ?_
  rcases kh_bx_ok hF with ⟨e_1, h_1, hF⟩ | ⟨r_1, h_1, hF⟩
  · refine kh_xcallX (vx_runV (As := [.int x1]) (rest := []) ⟨C.1, C.2.1, C.2.2.1, C.2.2.2.1, C.2.2.2.2.1⟩ (c_X4_groupNumbered l hlt D ca A ad ρ x1 h_1) (cwV 1 C.2.2.2.2.1 gX4_solve_X4_groupNumbered rfl rfl rfl (by decide +kernel) ⟨Nat.le_of_ble_eq_true rfl, Nat.le_of_ble_eq_true rfl⟩) (kh_preVJ C hT hw hS 0 (kh_z0 ρ) kh_kd0 rfl) rfl rfl hl.1.1 rfl (lv_room (kh_sum kh_an (Nat.le_of_ble_eq_true rfl))) dX4_solve_2 ⟨Nat.le_of_ble_eq_true rfl, Nat.le_of_ble_eq_true rfl⟩) hS (kh_pl h_1) (kh_notYq (kh_pl h_1)) (fun H locs ce q9 hw hS h7 h8 h9 => ?_)
    exact kh_out hout hlocks h7 h8 h9 hw hS (hF0.trans hF.symm) (Nat.le_of_ble_eq_true rfl) (Nat.le_of_ble_eq_true rfl)
  refine kh_xcallq (vx_runV (As := [.int x1]) (rest := []) ⟨C.1, C.2.1, C.2.2.1, C.2.2.2.1, C.2.2.2.2.1⟩ (c_X4_groupNumbered l hlt D ca A ad ρ x1 h_1) (cwV 1 C.2.2.2.2.1 gX4_solve_X4_groupNumbered rfl rfl rfl (by decide +kernel) ⟨Nat.le_of_ble_eq_true rfl, Nat.le_of_ble_eq_true rfl⟩) (kh_preVJ C hT hw hS 0 (kh_z0 ρ) kh_kd0 rfl) rfl rfl hl.1.1 rfl (lv_room (kh_sum kh_an (Nat.le_of_ble_eq_true rfl))) dX4_solve_2 ⟨Nat.le_of_ble_eq_true rfl, Nat.le_of_ble_eq_true rfl⟩) hS (kh_pr h_1) (fun H locs hw hS => ?_)
  refine kh_astore_n (lv' := [(3, va_rf (kh_rc ad 11 r_1)), (0, .ref (ad 0 0)), (1, .int x1), (2, .int x2)]) C.1 C.2.1 dX4_solve_5 rfl hl (by decide) rfl (fun ls hl => ?_)
  refine kh_aload_n C.1 C.2.1 dX4_solve_6 rfl (kh_at hl 0 rfl) ?_
  obtain ⟨g_2, hF⟩ := kh_gd_ok hF
  have v_3 := kh_in_lt g_2
  have r_4 := kh_rf (ad := ad) (k := 11) g_2
  refine kh_get C hw 11 1 r_4 v_3 kh_kd11 (Cn := RX1) (T := TX1) (N := 9) rfl (Nat.le_of_ble_eq_true rfl) k_155 (kf_11_1 ad ρ r_1.toNatClampNeg) dX4_solve_7 ?_
  refine kh_astore (lv' := [(4, va_rf (kh_rc ad 6 (ρ 11 1 r_1.toNatClampNeg 0))), (3, va_rf (kh_rc ad 11 r_1)), (0, .ref (ad 0 0)), (1, .int x1), (2, .int x2)]) C.1 C.2.1 dX4_solve_10 hl (by decide) rfl (fun ls hl => ?_)
  refine lv_iload_n C.1 C.2.1 dX4_solve_12 rfl (kh_at hl 4 rfl) ?_
  refine lv_if_lt (tgt := 25) C.1 C.2.1 dX4_solve_13 (by decide) (fun c_5 => ?_) (fun c_5 => ?_)
  · have hF := kh_ift hF c_5
    exact wL25 ρ _ _ _ hF hw hS (kh_sub hl [] rfl)
  · have hF := kh_iff hF c_5
    refine lv_iload_n C.1 C.2.1 dX4_solve_16 rfl (kh_at hl 4 rfl) ?_
    refine kh_aload C.1 C.2.1 dX4_solve_17 (kh_at hl 0 rfl) ?_
    obtain ⟨g_6, hF⟩ := kh_gd_ok hF
    have v_7 := kh_in_lt g_6
    have r_8 := kh_rf (ad := ad) (k := 6) g_6
    refine kh_get C hw 6 6 r_8 v_7 kh_kd6 (Cn := RX2) (T := TX2) (N := 13) rfl (Nat.le_of_ble_eq_true rfl) k_80 (kf_6_6 ad ρ ((ρ 11 1 r_1.toNatClampNeg 0).toNatClampNeg)) dX4_solve_19 ?_
    refine lv_icmp_lt (tgt := 35) C.1 C.2.1 dX4_solve_22 (by decide) (fun c_9 => ?_) (fun c_9 => ?_)
    · have hF := kh_ift hF c_9
      refine kh_aload_n C.1 C.2.1 dX4_solve_35 rfl (kh_at hl 1 rfl) ?_
      refine kh_get C hw 11 6 r_4 v_3 kh_kd11 (Cn := RX1) (T := TX1) (N := 9) rfl (Nat.le_of_ble_eq_true rfl) k_161 (kf_11_6 ad ρ r_1.toNatClampNeg) dX4_solve_36 ?_
      refine lv_if_ne (tgt := 67) C.1 C.2.1 dX4_solve_39 (by decide) (fun c_10 => ?_) (fun c_10 => ?_)
      · have hF := kh_iff hF c_10
        exact wL67 ρ _ _ _ hF hw hS (kh_sub hl [] rfl)
      · have hF := kh_ift hF c_10
        refine lv_aload_n C.1 C.2.1 dX4_solve_42 rfl (kh_at hl 2 rfl) ?_
        refine kh_aload_n C.1 C.2.1 dX4_solve_43 rfl (kh_at hl 1 rfl) ?_
        obtain ⟨r_11, h_11, hF⟩ := kh_bd_ok hF
        refine kh_calli (va_runV (As := [va_rf (kh_rc ad 11 r_1)]) (rest := []) ⟨C.1, C.2.1, C.2.2.1, C.2.2.2.1, C.2.2.2.2.1⟩ (c_X4_openTo l D ca A ad ρ r_1 h_11) (cwV 1 C.2.2.2.2.1 gX4_solve_X4_openTo rfl rfl rfl (by decide +kernel) ⟨Nat.le_of_ble_eq_true rfl, Nat.le_of_ble_eq_true rfl⟩) (kh_preV C hw hS 0 (kh_z0 ρ) kh_kd0 rfl) rfl rfl hl.1.1 rfl (lv_room (kh_sum kh_an (Nat.le_of_ble_eq_true rfl))) dX4_solve_44 ⟨Nat.le_of_ble_eq_true rfl, Nat.le_of_ble_eq_true rfl⟩) hS (kh_mp h_11) (fun H locs hw hS => ?_)
        refine lv_iload_n C.1 C.2.1 dX4_solve_47 rfl (kh_at hl 4 rfl) ?_
        obtain ⟨r_12, h_12, hF⟩ := kh_bd_ok hF
        refine kh_calli (va_runS (As := [.int r_11, .int x2]) (rest := []) ⟨C.1, C.2.1, C.2.2.1, C.2.2.2.1, C.2.2.2.2.1⟩ (c_X4_has l D ca A ad ρ r_11 x2 h_12) (va_cwS 2 C.2.2.2.2.1 gX4_solve_X4_has rfl rfl rfl (by decide +kernel) ⟨Nat.le_of_ble_eq_true rfl, Nat.le_of_ble_eq_true rfl⟩) (kh_preS C hw hS) rfl rfl hl.1.1 rfl (lv_room (kh_sum kh_an (Nat.le_of_ble_eq_true rfl))) dX4_solve_48 ⟨Nat.le_of_ble_eq_true rfl, Nat.le_of_ble_eq_true rfl⟩) hS (kh_mp h_12) (fun H locs hw hS => ?_)
        refine lv_if_eq (tgt := 67) C.1 C.2.1 dX4_solve_51 (by decide) (fun c_13 => ?_) (fun c_13 => ?_)
        · have hF := kh_ift hF c_13
          exact wL67 ρ _ _ _ hF hw hS (kh_sub hl [] rfl)
        · have hF := kh_iff hF c_13
          refine kh_aload C.1 C.2.1 dX4_solve_54 (kh_at hl 0 rfl) ?_
          refine lv_iload_n C.1 C.2.1 dX4_solve_56 rfl (kh_at hl 4 rfl) ?_
          refine kh_aload_n C.1 C.2.1 dX4_solve_57 rfl (kh_at hl 1 rfl) ?_
          refine kh_get C hw 11 8 r_4 v_3 kh_kd11 (Cn := RX1) (T := TX1) (N := 9) rfl (Nat.le_of_ble_eq_true rfl) k_166 (kf_11_8 ad ρ r_1.toNatClampNeg) dX4_solve_58 ?_
          obtain ⟨r_14, h_14, hF⟩ := kh_bd_ok hF
          refine kh_calli (va_runV (As := [.int x2, .int (ρ 11 8 r_1.toNatClampNeg 0)]) (rest := []) ⟨C.1, C.2.1, C.2.2.1, C.2.2.2.1, C.2.2.2.2.1⟩ (c_X2_isSolvable l D ca A ad ρ ((ρ 11 1 r_1.toNatClampNeg 0).toNatClampNeg) x2 (ρ 11 8 r_1.toNatClampNeg 0) h_14) (cwV 2 C.2.2.2.2.1 gX4_solve_X2_isSolvable rfl rfl rfl (by decide +kernel) ⟨Nat.le_of_ble_eq_true rfl, Nat.le_of_ble_eq_true rfl⟩) (kh_preV C hw hS 6 v_7 kh_kd6 rfl) rfl rfl hl.1.1 (by show _ = _; rw [r_8]; rfl) (lv_room (kh_sum kh_an (Nat.le_of_ble_eq_true rfl))) dX4_solve_61 ⟨Nat.le_of_ble_eq_true rfl, Nat.le_of_ble_eq_true rfl⟩) hS (kh_mp h_14) (fun H locs hw hS => ?_)
          refine lv_if_ne (tgt := 77) C.1 C.2.1 dX4_solve_64 (by decide) (fun c_15 => ?_) (fun c_15 => ?_)
          · have hF := kh_iff hF c_15
            refine kh_aload_n C.1 C.2.1 dX4_solve_77 rfl (kh_at hl 1 rfl) ?_
            refine kh_aload_n C.1 C.2.1 dX4_solve_78 rfl (kh_at hl 1 rfl) ?_
            refine kh_get C hw 11 7 r_4 v_3 kh_kd11 (Cn := RX1) (T := TX1) (N := 9) rfl (Nat.le_of_ble_eq_true rfl) k_174 (kf_11_7 ad ρ r_1.toNatClampNeg) dX4_solve_79 ?_
            refine lv_iload_n C.1 C.2.1 dX4_solve_82 rfl (kh_at hl 4 rfl) ?_
            obtain ⟨r_16, h_16, hF⟩ := kh_bd_ok hF
            refine kh_calli (va_runS (As := [.int (ρ 11 7 r_1.toNatClampNeg 0), .int x2]) (rest := [va_rf (kh_rc ad 11 r_1)]) ⟨C.1, C.2.1, C.2.2.1, C.2.2.2.1, C.2.2.2.2.1⟩ (c_X4_with l D ca A ad ρ (ρ 11 7 r_1.toNatClampNeg 0) x2 h_16) (va_cwS 2 C.2.2.2.2.1 gX4_solve_X4_with rfl rfl rfl (by decide +kernel) ⟨Nat.le_of_ble_eq_true rfl, Nat.le_of_ble_eq_true rfl⟩) (kh_preS C hw hS) rfl rfl hl.1.1 rfl (lv_room (kh_sum (kh_ac (kh_c1 _) kh_an) (Nat.le_of_ble_eq_true rfl))) dX4_solve_83 ⟨Nat.le_of_ble_eq_true rfl, Nat.le_of_ble_eq_true rfl⟩) hS (kh_mp h_16) (fun H locs hw hS => ?_)
            refine kh_putI C hw hS 11 7 r_4 v_3 kh_kd11 (by decide) (Cn := RX1) (T := TX1) (N := 9) rfl (Nat.le_of_ble_eq_true rfl) (kq_11_7) k_174 rfl (by decide +kernel) dX4_solve_86 (fun H locs hw hS => ?_)
            refine kh_aload_n C.1 C.2.1 dX4_solve_89 rfl (kh_at hl 1 rfl) ?_
            refine lv_dup C.1 C.2.1 dX4_solve_90 (kh_c1 _) ?_
            refine kh_get C hw 11 8 r_4 (kh_lu v_3) kh_kd11 (Cn := RX1) (T := TX1) (N := 9) rfl (Nat.le_of_ble_eq_true rfl) k_166 (kf_11_8 ad (kh_up ρ 11 7 r_1.toNatClampNeg 0 r_16) r_1.toNatClampNeg) dX4_solve_91 ?_
            refine kh_aload C.1 C.2.1 dX4_solve_94 (kh_at hl 0 rfl) ?_
            refine kh_get C hw 6 3 r_8 (kh_lu v_7) kh_kd6 (Cn := RX2) (T := TX2) (N := 13) rfl (Nat.le_of_ble_eq_true rfl) k_177 (kf_6_3 ad (kh_up ρ 11 7 r_1.toNatClampNeg 0 r_16) ((ρ 11 1 r_1.toNatClampNeg 0).toNatClampNeg)) dX4_solve_96 ?_
            refine lv_iload_n C.1 C.2.1 dX4_solve_99 rfl (kh_at hl 4 rfl) ?_
            obtain ⟨g_17, hF⟩ := kh_gd_ok hF
            refine kh_iald C hw 8 rfl (kh_lu v_7) kh_kd8 g_17 dX4_solve_100 ?_
            refine lv_ior C.1 C.2.1 dX4_solve_101 ?_
            refine kh_putI C hw hS 11 8 r_4 (kh_lu v_3) kh_kd11 (by decide) (Cn := RX1) (T := TX1) (N := 9) rfl (Nat.le_of_ble_eq_true rfl) (kq_11_8) k_166 rfl (by decide +kernel) dX4_solve_102 (fun H locs hw hS => ?_)
            refine kh_aload_n C.1 C.2.1 dX4_solve_105 rfl (kh_at hl 1 rfl) ?_
            obtain ⟨ρ_18, h_18, hF⟩ := kh_bd_ok hF
            refine kh_callv (va_runS (As := [va_rf (kh_rc ad 11 r_1)]) (rest := []) ⟨C.1, C.2.1, C.2.2.1, C.2.2.2.1, C.2.2.2.2.1⟩ (c_X4_leaveIfOut l D ca A ad (kh_up (kh_up ρ 11 7 r_1.toNatClampNeg 0 r_16) 11 8 r_1.toNatClampNeg 0 (((kh_up ρ 11 7 r_1.toNatClampNeg 0 r_16) 11 8 r_1.toNatClampNeg 0) ||| ((kh_up ρ 11 7 r_1.toNatClampNeg 0 r_16) 8 0 ((ρ 11 1 r_1.toNatClampNeg 0).toNatClampNeg) x2.toNatClampNeg))) r_1 h_18) (va_cwS 1 C.2.2.2.2.1 gX4_solve_X4_leaveIfOut rfl rfl rfl (by decide +kernel) ⟨Nat.le_of_ble_eq_true rfl, Nat.le_of_ble_eq_true rfl⟩) (kh_preS C hw hS) rfl rfl hl.1.1 rfl (lv_room (kh_sum kh_an (Nat.le_of_ble_eq_true rfl))) dX4_solve_106 ⟨Nat.le_of_ble_eq_true rfl, Nat.le_of_ble_eq_true rfl⟩) hS h_18 (fun H locs hw hS => ?_)
            refine kh_aload_n C.1 C.2.1 dX4_solve_109 rfl (kh_at hl 1 rfl) ?_
            obtain ⟨g_19, hF⟩ := kh_gd_ok hF
            have v_20 := kh_in_lt g_19
            have r_21 := kh_rf (ad := ad) (k := 11) g_19
            refine kh_get C hw 11 8 r_21 v_20 kh_kd11 (Cn := RX1) (T := TX1) (N := 9) rfl (Nat.le_of_ble_eq_true rfl) k_166 (kf_11_8 ad ρ_18 r_1.toNatClampNeg) dX4_solve_110 ?_
            refine vx_ret (W.widen (k := 2) (n := 12) (Nat.le_of_ble_eq_true rfl) (Nat.le_of_ble_eq_true rfl) ?_)
            exact W.iret (v := ρ_18 11 8 r_1.toNatClampNeg 0) C.1 C.2.1 hr (fun t ht hW => ⟨⟨ρ_18 11 8 r_1.toNatClampNeg 0, ρ_18, rfl, hF0.trans hF.symm, kh_bk ht hw⟩, hS.F ht⟩) hS.2.2 dX4_solve_113
          · have hF := kh_ift hF c_15
            exact wL67 ρ _ _ _ hF hw hS (kh_sub hl [] rfl)
    · have hF := kh_iff hF c_9
      exact wL25 ρ _ _ _ hF hw hS (kh_sub hl [] rfl)

def f_X4_hint (ρ : kh_S) (x1 : Int32) : Option ((String × kh_S) ⊕ (Int32 × kh_S)) := kh_bx (f_X4_groupNumbered ρ x1) (fun e_1 => some (.inl (e_1, ρ))) (fun r_1 => kh_gd (kh_in r_1 (kh_n ρ 11)) (if (ρ 11 6 r_1.toNatClampNeg 0) = 0 then kh_bd (f_X4_wayOf ρ r_1) (fun r_6 => kh_gd (kh_in (ρ 11 1 r_1.toNatClampNeg 0) (kh_n ρ 6)) (kh_bd (f_X2_lowestSolvable ρ ((ρ 11 1 r_1.toNatClampNeg 0).toNatClampNeg) r_6 (ρ 11 8 r_1.toNatClampNeg 0)) (fun r_10 => if r_10 = (-1 : Int32) then some (.inl (kh_E2, ρ)) else kh_bd (f_X1_takeHint ρ r_1.toNatClampNeg r_10) (fun ρ_12 => kh_bd (f_X4_leaveIfLate ρ_12 r_1) (fun ρ_13 => some (.inr (r_10, ρ_13))))))) else some (.inl (kh_E2, ρ))))
set_option maxHeartbeats 4000000 in
set_option maxRecDepth 100000 in
theorem c_X4_hint (l : Launch) (hlt : l.stackTraces = false) (D : va_G) (ca : Nat → ClassId) (A : Nat → Prop) (ad : Nat → Nat → Nat) (ρ : kh_S) (x1 : Int32) {q0 : (String × kh_S) ⊕ (Int32 × kh_S)} (hF0 : f_X4_hint ρ x1 = some q0) : vx_Met l yX4_hint wsX4_hint ({ frames := 7, cells := 2, slots := 12, locals := 111 } : Room) (va_Pc [.ref (ad 0 0), .int x1] (kh_J D ca A ad ρ)) (kh_Yi D ca A ad (f_X4_hint ρ x1)) (kh_X D ca A ad (f_X4_hint ρ x1)) 2 12 A := by
  refine vx_ofW (cc := cX4_hint) (maxL := 4) (ret := (some .int)) (by decide) rfl ?_
  intro p e s m args below meth c s₁ B hml hout hv
  obtain ⟨rfl, ⟨hK, hw, hA⟩, hT⟩ := hv
  have C : kh_C p s m ([.ref (ad 0 0), .int x1]).toArray c cX4_hint 4 RX4 wsX4_hint D ca A := ⟨B.exec, B.bytes, hml, findClass_of_methodNamed B.named, atoms_spec (ws := wsX4_hint) B.pre, hK, hA⟩
  have hr := B.returns
  have hlocks := B.notSynchronized
  have hS : va_S A s.heap s.heap [] := va_S.rf
  have hl := kh_entry ([.ref (ad 0 0), .int x1]) (n := 4) (kh_ac rfl (kh_ac rfl kh_an)) (Nat.le_of_ble_eq_true rfl)
  rw [lg_entry_eq]
  generalize (lg_sl ([.ref (ad 0 0), .int x1]) ++ List.replicate (4 - (lg_sl ([.ref (ad 0 0), .int x1])).length) Slot.unset).toArray = ls at hl ⊢
  have hl : kh_lv ls 4 [(0, .ref (ad 0 0)), (1, .int x1)] := hl
  have k_161 := C.2.2.2.2.1 (.fieldLink RX4 161 "KeylessHall$Group" "how" "I") (by decide +kernel)
  have k_155 := C.2.2.2.2.1 (.fieldLink RX4 155 "KeylessHall$Group" "place" "LKeylessHall$Room;") (by decide +kernel)
  have k_166 := C.2.2.2.2.1 (.fieldLink RX4 166 "KeylessHall$Group" "held" "I") (by decide +kernel)
  have hF := hF0
  unfold f_X4_hint at hF
  refine lv_aload_n C.1 C.2.1 dX4_hint_0 rfl (kh_at hl 0 rfl) ?_
  refine lv_iload_n C.1 C.2.1 dX4_hint_1 rfl (kh_at hl 1 rfl) ?_
  rcases kh_bx_ok hF with ⟨e_1, h_1, hF⟩ | ⟨r_1, h_1, hF⟩
  · refine kh_xcallX (vx_runV (As := [.int x1]) (rest := []) ⟨C.1, C.2.1, C.2.2.1, C.2.2.2.1, C.2.2.2.2.1⟩ (c_X4_groupNumbered l hlt D ca A ad ρ x1 h_1) (cwV 1 C.2.2.2.2.1 gX4_hint_X4_groupNumbered rfl rfl rfl (by decide +kernel) ⟨Nat.le_of_ble_eq_true rfl, Nat.le_of_ble_eq_true rfl⟩) (kh_preVJ C hT hw hS 0 (kh_z0 ρ) kh_kd0 rfl) rfl rfl hl.1.1 rfl (lv_room (kh_sum kh_an (Nat.le_of_ble_eq_true rfl))) dX4_hint_2 ⟨Nat.le_of_ble_eq_true rfl, Nat.le_of_ble_eq_true rfl⟩) hS (kh_pl h_1) (kh_notYq (kh_pl h_1)) (fun H locs ce q9 hw hS h7 h8 h9 => ?_)
    exact kh_out hout hlocks h7 h8 h9 hw hS (hF0.trans hF.symm) (Nat.le_of_ble_eq_true rfl) (Nat.le_of_ble_eq_true rfl)
  refine kh_xcallq (vx_runV (As := [.int x1]) (rest := []) ⟨C.1, C.2.1, C.2.2.1, C.2.2.2.1, C.2.2.2.2.1⟩ (c_X4_groupNumbered l hlt D ca A ad ρ x1 h_1) (cwV 1 C.2.2.2.2.1 gX4_hint_X4_groupNumbered rfl rfl rfl (by decide +kernel) ⟨Nat.le_of_ble_eq_true rfl, Nat.le_of_ble_eq_true rfl⟩) (kh_preVJ C hT hw hS 0 (kh_z0 ρ) kh_kd0 rfl) rfl rfl hl.1.1 rfl (lv_room (kh_sum kh_an (Nat.le_of_ble_eq_true rfl))) dX4_hint_2 ⟨Nat.le_of_ble_eq_true rfl, Nat.le_of_ble_eq_true rfl⟩) hS (kh_pr h_1) (fun H locs hw hS => ?_)
  refine kh_astore_n (lv' := [(2, va_rf (kh_rc ad 11 r_1)), (0, .ref (ad 0 0)), (1, .int x1)]) C.1 C.2.1 dX4_hint_5 rfl hl (by decide) rfl (fun ls hl => ?_)
  refine kh_aload_n C.1 C.2.1 dX4_hint_6 rfl (kh_at hl 0 rfl) ?_
  obtain ⟨g_2, hF⟩ := kh_gd_ok hF
  have v_3 := kh_in_lt g_2
  have r_4 := kh_rf (ad := ad) (k := 11) g_2
  refine kh_get C hw 11 6 r_4 v_3 kh_kd11 (Cn := RX1) (T := TX1) (N := 9) rfl (Nat.le_of_ble_eq_true rfl) k_161 (kf_11_6 ad ρ r_1.toNatClampNeg) dX4_hint_7 ?_
  refine lv_if_eq (tgt := 23) C.1 C.2.1 dX4_hint_10 (by decide) (fun c_5 => ?_) (fun c_5 => ?_)
  · have hF := kh_ift hF c_5
    refine kh_aload_n C.1 C.2.1 dX4_hint_23 rfl (kh_at hl 0 rfl) ?_
    refine kh_get C hw 11 1 r_4 v_3 kh_kd11 (Cn := RX1) (T := TX1) (N := 9) rfl (Nat.le_of_ble_eq_true rfl) k_155 (kf_11_1 ad ρ r_1.toNatClampNeg) dX4_hint_24 ?_
    refine lv_aload_n C.1 C.2.1 dX4_hint_27 rfl (kh_at hl 1 rfl) ?_
    refine kh_aload_n C.1 C.2.1 dX4_hint_28 rfl (kh_at hl 0 rfl) ?_
    obtain ⟨r_6, h_6, hF⟩ := kh_bd_ok hF
    refine kh_calli (va_runV (As := [va_rf (kh_rc ad 11 r_1)]) (rest := [va_rf (kh_rc ad 6 (ρ 11 1 r_1.toNatClampNeg 0))]) ⟨C.1, C.2.1, C.2.2.1, C.2.2.2.1, C.2.2.2.2.1⟩ (c_X4_wayOf l D ca A ad ρ r_1 h_6) (cwV 1 C.2.2.2.2.1 gX4_hint_X4_wayOf rfl rfl rfl (by decide +kernel) ⟨Nat.le_of_ble_eq_true rfl, Nat.le_of_ble_eq_true rfl⟩) (kh_preV C hw hS 0 (kh_z0 ρ) kh_kd0 rfl) rfl rfl hl.1.1 rfl (lv_room (kh_sum (kh_ac (kh_c1 _) kh_an) (Nat.le_of_ble_eq_true rfl))) dX4_hint_29 ⟨Nat.le_of_ble_eq_true rfl, Nat.le_of_ble_eq_true rfl⟩) hS (kh_mp h_6) (fun H locs hw hS => ?_)
    refine kh_aload_n C.1 C.2.1 dX4_hint_32 rfl (kh_at hl 0 rfl) ?_
    refine kh_get C hw 11 8 r_4 v_3 kh_kd11 (Cn := RX1) (T := TX1) (N := 9) rfl (Nat.le_of_ble_eq_true rfl) k_166 (kf_11_8 ad ρ r_1.toNatClampNeg) dX4_hint_33 ?_
    obtain ⟨g_7, hF⟩ := kh_gd_ok hF
    have v_8 := kh_in_lt g_7
    have r_9 := kh_rf (ad := ad) (k := 6) g_7
    obtain ⟨r_10, h_10, hF⟩ := kh_bd_ok hF
    refine kh_calli (va_runV (As := [.int r_6, .int (ρ 11 8 r_1.toNatClampNeg 0)]) (rest := []) ⟨C.1, C.2.1, C.2.2.1, C.2.2.2.1, C.2.2.2.2.1⟩ (c_X2_lowestSolvable l D ca A ad ρ ((ρ 11 1 r_1.toNatClampNeg 0).toNatClampNeg) r_6 (ρ 11 8 r_1.toNatClampNeg 0) h_10) (cwV 2 C.2.2.2.2.1 gX4_hint_X2_lowestSolvable rfl rfl rfl (by decide +kernel) ⟨Nat.le_of_ble_eq_true rfl, Nat.le_of_ble_eq_true rfl⟩) (kh_preV C hw hS 6 v_8 kh_kd6 rfl) rfl rfl hl.1.1 (by show _ = _; rw [r_9]; rfl) (lv_room (kh_sum kh_an (Nat.le_of_ble_eq_true rfl))) dX4_hint_36 ⟨Nat.le_of_ble_eq_true rfl, Nat.le_of_ble_eq_true rfl⟩) hS (kh_mp h_10) (fun H locs hw hS => ?_)
    refine kh_istore_n (lv' := [(3, .int r_10), (2, va_rf (kh_rc ad 11 r_1)), (0, .ref (ad 0 0)), (1, .int x1)]) C.1 C.2.1 dX4_hint_39 rfl hl (by decide) rfl (fun ls hl => ?_)
    refine lv_iload_n C.1 C.2.1 dX4_hint_40 rfl (kh_at hl 0 rfl) ?_
    refine lv_iconst (v := (-1 : Int32)) C.1 C.2.1 dX4_hint_41 (by decide) ?_
    refine lv_icmp_ne (tgt := 55) C.1 C.2.1 dX4_hint_42 (by decide) (fun c_11 => ?_) (fun c_11 => ?_)
    · have hF := kh_iff hF c_11
      refine kh_aload_n C.1 C.2.1 dX4_hint_55 rfl (kh_at hl 1 rfl) ?_
      refine lv_iload_n C.1 C.2.1 dX4_hint_56 rfl (kh_at hl 0 rfl) ?_
      obtain ⟨ρ_12, h_12, hF⟩ := kh_bd_ok hF
      refine kh_callv (va_runV (As := [.int r_10]) (rest := []) ⟨C.1, C.2.1, C.2.2.1, C.2.2.2.1, C.2.2.2.2.1⟩ (c_X1_takeHint l D ca A ad ρ r_1.toNatClampNeg r_10 h_12) (cwV 1 C.2.2.2.2.1 gX4_hint_X1_takeHint rfl rfl rfl (by decide +kernel) ⟨Nat.le_of_ble_eq_true rfl, Nat.le_of_ble_eq_true rfl⟩) (kh_preV C hw hS 11 v_3 kh_kd11 rfl) rfl rfl hl.1.1 (by show _ = _; rw [r_4]; rfl) (lv_room (kh_sum kh_an (Nat.le_of_ble_eq_true rfl))) dX4_hint_57 ⟨Nat.le_of_ble_eq_true rfl, Nat.le_of_ble_eq_true rfl⟩) hS h_12 (fun H locs hw hS => ?_)
      refine lv_aload_n C.1 C.2.1 dX4_hint_60 rfl (kh_at hl 2 rfl) ?_
      refine kh_aload_n C.1 C.2.1 dX4_hint_61 rfl (kh_at hl 1 rfl) ?_
      obtain ⟨ρ_13, h_13, hF⟩ := kh_bd_ok hF
      refine kh_callv (va_runV (As := [va_rf (kh_rc ad 11 r_1)]) (rest := []) ⟨C.1, C.2.1, C.2.2.1, C.2.2.2.1, C.2.2.2.2.1⟩ (c_X4_leaveIfLate l D ca A ad ρ_12 r_1 h_13) (cwV 1 C.2.2.2.2.1 gX4_hint_X4_leaveIfLate rfl rfl rfl (by decide +kernel) ⟨Nat.le_of_ble_eq_true rfl, Nat.le_of_ble_eq_true rfl⟩) (kh_preV C hw hS 0 (kh_z0 ρ_12) kh_kd0 rfl) rfl rfl hl.1.1 rfl (lv_room (kh_sum kh_an (Nat.le_of_ble_eq_true rfl))) dX4_hint_62 ⟨Nat.le_of_ble_eq_true rfl, Nat.le_of_ble_eq_true rfl⟩) hS h_13 (fun H locs hw hS => ?_)
      refine lv_iload_n C.1 C.2.1 dX4_hint_65 rfl (kh_at hl 0 rfl) ?_
      refine vx_ret (W.widen (k := 2) (n := 12) (Nat.le_of_ble_eq_true rfl) (Nat.le_of_ble_eq_true rfl) ?_)
      exact W.iret (v := r_10) C.1 C.2.1 hr (fun t ht hW => ⟨⟨r_10, ρ_13, rfl, hF0.trans hF.symm, kh_bk ht hw⟩, hS.F ht⟩) hS.2.2 dX4_hint_66
    · have hF := kh_ift hF c_11
      exact kh_throw C hlt hT hw hS hl.1.1 hout hlocks (ik := 53) (is := 192) (ic := 57) (text := "the group has no way") hT.2.2.2.2.1 (by decide +kernel) (by decide +kernel) kh_hg2 kh_hb2 (C.2.2.2.2.1 (.classLink RX4 53 kh_E2) (by decide +kernel)) (C.2.2.2.2.1 (.initialized kh_E2) (by decide +kernel)) dX4_hint_45 dX4_hint_48 dX4_hint_49 dX4_hint_51 dX4_hint_54 (hF0.trans hF.symm) ⟨Nat.le_of_ble_eq_true rfl, Nat.le_of_ble_eq_true rfl, Nat.le_of_ble_eq_true rfl, Nat.le_of_ble_eq_true rfl⟩ ⟨Nat.le_of_ble_eq_true rfl, Nat.le_of_ble_eq_true rfl⟩
  · have hF := kh_iff hF c_5
    exact kh_throw C hlt hT hw hS hl.1.1 hout hlocks (ik := 53) (is := 184) (ic := 57) (text := "the group does not play") hT.2.2.2.2.1 (by decide +kernel) (by decide +kernel) kh_hg2 kh_hb2 (C.2.2.2.2.1 (.classLink RX4 53 kh_E2) (by decide +kernel)) (C.2.2.2.2.1 (.initialized kh_E2) (by decide +kernel)) dX4_hint_13 dX4_hint_16 dX4_hint_17 dX4_hint_19 dX4_hint_22 (hF0.trans hF.symm) ⟨Nat.le_of_ble_eq_true rfl, Nat.le_of_ble_eq_true rfl, Nat.le_of_ble_eq_true rfl, Nat.le_of_ble_eq_true rfl⟩ ⟨Nat.le_of_ble_eq_true rfl, Nat.le_of_ble_eq_true rfl⟩

def f_X4_giveUp (ρ : kh_S) (x1 : Int32) : Option ((String × kh_S) ⊕ kh_S) := kh_bx (f_X4_groupNumbered ρ x1) (fun e_1 => some (.inl (e_1, ρ))) (fun r_1 => kh_gd (kh_in r_1 (kh_n ρ 11)) (if (ρ 11 6 r_1.toNatClampNeg 0) = 0 then kh_bd (f_X4_leave ρ r_1 (2 : Int32)) (fun ρ_6 => some (.inr ρ_6)) else some (.inl (kh_E2, ρ))))
set_option maxHeartbeats 4000000 in
set_option maxRecDepth 100000 in
theorem c_X4_giveUp (l : Launch) (hlt : l.stackTraces = false) (D : va_G) (ca : Nat → ClassId) (A : Nat → Prop) (ad : Nat → Nat → Nat) (ρ : kh_S) (x1 : Int32) {q0 : (String × kh_S) ⊕ kh_S} (hF0 : f_X4_giveUp ρ x1 = some q0) : vx_Met l yX4_giveUp wsX4_giveUp ({ frames := 7, cells := 2, slots := 12, locals := 111 } : Room) (va_Pc [.ref (ad 0 0), .int x1] (kh_J D ca A ad ρ)) (kh_Yv D ca A ad (f_X4_giveUp ρ x1)) (kh_X D ca A ad (f_X4_giveUp ρ x1)) 2 12 A := by
  refine vx_ofW (cc := cX4_giveUp) (maxL := 3) (ret := none) (by decide) rfl ?_
  intro p e s m args below meth c s₁ B hml hout hv
  obtain ⟨rfl, ⟨hK, hw, hA⟩, hT⟩ := hv
  have C : kh_C p s m ([.ref (ad 0 0), .int x1]).toArray c cX4_giveUp 3 RX4 wsX4_giveUp D ca A := ⟨B.exec, B.bytes, hml, findClass_of_methodNamed B.named, atoms_spec (ws := wsX4_giveUp) B.pre, hK, hA⟩
  have hr := B.returns
  have hlocks := B.notSynchronized
  have hS : va_S A s.heap s.heap [] := va_S.rf
  have hl := kh_entry ([.ref (ad 0 0), .int x1]) (n := 3) (kh_ac rfl (kh_ac rfl kh_an)) (Nat.le_of_ble_eq_true rfl)
  rw [lg_entry_eq]
  generalize (lg_sl ([.ref (ad 0 0), .int x1]) ++ List.replicate (3 - (lg_sl ([.ref (ad 0 0), .int x1])).length) Slot.unset).toArray = ls at hl ⊢
  have hl : kh_lv ls 3 [(0, .ref (ad 0 0)), (1, .int x1)] := hl
  have k_161 := C.2.2.2.2.1 (.fieldLink RX4 161 "KeylessHall$Group" "how" "I") (by decide +kernel)
  have hF := hF0
  unfold f_X4_giveUp at hF
  refine lv_aload_n C.1 C.2.1 dX4_giveUp_0 rfl (kh_at hl 0 rfl) ?_
  refine lv_iload_n C.1 C.2.1 dX4_giveUp_1 rfl (kh_at hl 1 rfl) ?_
  rcases kh_bx_ok hF with ⟨e_1, h_1, hF⟩ | ⟨r_1, h_1, hF⟩
  · refine kh_xcallX (vx_runV (As := [.int x1]) (rest := []) ⟨C.1, C.2.1, C.2.2.1, C.2.2.2.1, C.2.2.2.2.1⟩ (c_X4_groupNumbered l hlt D ca A ad ρ x1 h_1) (cwV 1 C.2.2.2.2.1 gX4_giveUp_X4_groupNumbered rfl rfl rfl (by decide +kernel) ⟨Nat.le_of_ble_eq_true rfl, Nat.le_of_ble_eq_true rfl⟩) (kh_preVJ C hT hw hS 0 (kh_z0 ρ) kh_kd0 rfl) rfl rfl hl.1.1 rfl (lv_room (kh_sum kh_an (Nat.le_of_ble_eq_true rfl))) dX4_giveUp_2 ⟨Nat.le_of_ble_eq_true rfl, Nat.le_of_ble_eq_true rfl⟩) hS (kh_pl h_1) (kh_notYq (kh_pl h_1)) (fun H locs ce q9 hw hS h7 h8 h9 => ?_)
    exact kh_out hout hlocks h7 h8 h9 hw hS (hF0.trans hF.symm) (Nat.le_of_ble_eq_true rfl) (Nat.le_of_ble_eq_true rfl)
  refine kh_xcallq (vx_runV (As := [.int x1]) (rest := []) ⟨C.1, C.2.1, C.2.2.1, C.2.2.2.1, C.2.2.2.2.1⟩ (c_X4_groupNumbered l hlt D ca A ad ρ x1 h_1) (cwV 1 C.2.2.2.2.1 gX4_giveUp_X4_groupNumbered rfl rfl rfl (by decide +kernel) ⟨Nat.le_of_ble_eq_true rfl, Nat.le_of_ble_eq_true rfl⟩) (kh_preVJ C hT hw hS 0 (kh_z0 ρ) kh_kd0 rfl) rfl rfl hl.1.1 rfl (lv_room (kh_sum kh_an (Nat.le_of_ble_eq_true rfl))) dX4_giveUp_2 ⟨Nat.le_of_ble_eq_true rfl, Nat.le_of_ble_eq_true rfl⟩) hS (kh_pr h_1) (fun H locs hw hS => ?_)
  refine kh_astore_n (lv' := [(2, va_rf (kh_rc ad 11 r_1)), (0, .ref (ad 0 0)), (1, .int x1)]) C.1 C.2.1 dX4_giveUp_5 rfl hl (by decide) rfl (fun ls hl => ?_)
  refine kh_aload_n C.1 C.2.1 dX4_giveUp_6 rfl (kh_at hl 0 rfl) ?_
  obtain ⟨g_2, hF⟩ := kh_gd_ok hF
  have v_3 := kh_in_lt g_2
  have r_4 := kh_rf (ad := ad) (k := 11) g_2
  refine kh_get C hw 11 6 r_4 v_3 kh_kd11 (Cn := RX1) (T := TX1) (N := 9) rfl (Nat.le_of_ble_eq_true rfl) k_161 (kf_11_6 ad ρ r_1.toNatClampNeg) dX4_giveUp_7 ?_
  refine lv_if_eq (tgt := 23) C.1 C.2.1 dX4_giveUp_10 (by decide) (fun c_5 => ?_) (fun c_5 => ?_)
  · have hF := kh_ift hF c_5
    refine kh_aload_n C.1 C.2.1 dX4_giveUp_23 rfl (kh_at hl 0 rfl) ?_
    refine lv_iconst (v := (2 : Int32)) C.1 C.2.1 dX4_giveUp_24 (by decide) ?_
    obtain ⟨ρ_6, h_6, hF⟩ := kh_bd_ok hF
    refine kh_callv (va_runS (As := [va_rf (kh_rc ad 11 r_1), .int (2 : Int32)]) (rest := []) ⟨C.1, C.2.1, C.2.2.1, C.2.2.2.1, C.2.2.2.2.1⟩ (c_X4_leave l D ca A ad ρ r_1 (2 : Int32) h_6) (va_cwS 2 C.2.2.2.2.1 gX4_giveUp_X4_leave rfl rfl rfl (by decide +kernel) ⟨Nat.le_of_ble_eq_true rfl, Nat.le_of_ble_eq_true rfl⟩) (kh_preS C hw hS) rfl rfl hl.1.1 rfl (lv_room (kh_sum kh_an (Nat.le_of_ble_eq_true rfl))) dX4_giveUp_25 ⟨Nat.le_of_ble_eq_true rfl, Nat.le_of_ble_eq_true rfl⟩) hS h_6 (fun H locs hw hS => ?_)
    refine vx_ret (W.widen (k := 2) (n := 12) (Nat.le_of_ble_eq_true rfl) (Nat.le_of_ble_eq_true rfl) ?_)
    exact W.vret C.1 C.2.1 hr (fun t ht hW => ⟨⟨ρ_6, rfl, hF0.trans hF.symm, kh_bk ht hw⟩, hS.F ht⟩) hS.2.2 dX4_giveUp_28
  · have hF := kh_iff hF c_5
    exact kh_throw C hlt hT hw hS hl.1.1 hout hlocks (ik := 53) (is := 184) (ic := 57) (text := "the group does not play") hT.2.2.2.2.1 (by decide +kernel) (by decide +kernel) kh_hg2 kh_hb2 (C.2.2.2.2.1 (.classLink RX4 53 kh_E2) (by decide +kernel)) (C.2.2.2.2.1 (.initialized kh_E2) (by decide +kernel)) dX4_giveUp_13 dX4_giveUp_16 dX4_giveUp_17 dX4_giveUp_19 dX4_giveUp_22 (hF0.trans hF.symm) ⟨Nat.le_of_ble_eq_true rfl, Nat.le_of_ble_eq_true rfl, Nat.le_of_ble_eq_true rfl, Nat.le_of_ble_eq_true rfl⟩ ⟨Nat.le_of_ble_eq_true rfl, Nat.le_of_ble_eq_true rfl⟩

def f_X4_reset_L31 (ρ_31 : kh_S) : Option ((String × kh_S) ⊕ kh_S) := some (.inl (kh_E2, ρ_31))
def f_X4_reset (ρ : kh_S) (x1 : Int32) (x2 : Int32) (x3 : Int32) : Option ((String × kh_S) ⊕ kh_S) := kh_bx (f_X4_roomNumbered ρ x1) (fun e_1 => some (.inl (e_1, ρ))) (fun r_1 => kh_bx (f_X4_workerNumbered ρ x2) (fun e_2 => some (.inl (e_2, ρ))) (fun r_2 => kh_gd (kh_in r_1 (kh_n ρ 6)) (if (ρ 6 8 r_1.toNatClampNeg 0) = (2 : Int32) then kh_gd (kh_in r_2 (kh_n ρ 13)) (if (ρ 13 0 r_2.toNatClampNeg 0) < 0 then kh_gd (kh_b x3) (kh_bd (f_X4_beginNext (kh_up (kh_up (kh_up ρ 6 8 r_1.toNatClampNeg 0 (3 : Int32)) 6 10 r_1.toNatClampNeg 0 (0 : Int32)) 6 11 r_1.toNatClampNeg 0 x3) r_2 r_1) (fun ρ_12 => some (.inr ρ_12))) else f_X4_reset_L31 ρ) else f_X4_reset_L31 ρ)))
set_option maxHeartbeats 4000000 in
set_option maxRecDepth 100000 in
theorem c_X4_reset (l : Launch) (hlt : l.stackTraces = false) (D : va_G) (ca : Nat → ClassId) (A : Nat → Prop) (ad : Nat → Nat → Nat) (ρ : kh_S) (x1 : Int32) (x2 : Int32) (x3 : Int32) {q0 : (String × kh_S) ⊕ kh_S} (hF0 : f_X4_reset ρ x1 x2 x3 = some q0) : vx_Met l yX4_reset wsX4_reset ({ frames := 7, cells := 3, slots := 18, locals := 111 } : Room) (va_Pc [.ref (ad 0 0), .int x1, .int x2, .int x3] (kh_J D ca A ad ρ)) (kh_Yv D ca A ad (f_X4_reset ρ x1 x2 x3)) (kh_X D ca A ad (f_X4_reset ρ x1 x2 x3)) 3 18 A := by
  refine vx_ofW (cc := cX4_reset) (maxL := 6) (ret := none) (by decide) rfl ?_
  intro p e s m args below meth c s₁ B hml hout hv
  obtain ⟨rfl, ⟨hK, hw, hA⟩, hT⟩ := hv
  have C : kh_C p s m ([.ref (ad 0 0), .int x1, .int x2, .int x3]).toArray c cX4_reset 6 RX4 wsX4_reset D ca A := ⟨B.exec, B.bytes, hml, findClass_of_methodNamed B.named, atoms_spec (ws := wsX4_reset) B.pre, hK, hA⟩
  have hr := B.returns
  have hlocks := B.notSynchronized
  have hS : va_S A s.heap s.heap [] := va_S.rf
  have hl := kh_entry ([.ref (ad 0 0), .int x1, .int x2, .int x3]) (n := 6) (kh_ac rfl (kh_ac rfl (kh_ac rfl (kh_ac rfl kh_an)))) (Nat.le_of_ble_eq_true rfl)
  rw [lg_entry_eq]
  generalize (lg_sl ([.ref (ad 0 0), .int x1, .int x2, .int x3]) ++ List.replicate (6 - (lg_sl ([.ref (ad 0 0), .int x1, .int x2, .int x3])).length) Slot.unset).toArray = ls at hl ⊢
  have hl : kh_lv ls 6 [(0, .ref (ad 0 0)), (1, .int x1), (2, .int x2), (3, .int x3)] := hl
  have k_77 := C.2.2.2.2.1 (.fieldLink RX4 77 "KeylessHall$Room" "how" "I") (by decide +kernel)
  have k_209 := C.2.2.2.2.1 (.fieldLink RX4 209 "KeylessHall$Worker" "place" "LKeylessHall$Room;") (by decide +kernel)
  have k_212 := C.2.2.2.2.1 (.fieldLink RX4 212 "KeylessHall$Room" "forgotten" "I") (by decide +kernel)
  have k_215 := C.2.2.2.2.1 (.fieldLink RX4 215 "KeylessHall$Room" "isToBeChecked" "Z") (by decide +kernel)
  have hF := hF0
  unfold f_X4_reset at hF
  have wL31 : ∀ (ρ_31 : kh_S) (H : Heap) (locs : List Loc) (ls : Array Slot), f_X4_reset_L31 ρ_31 = some q0 → kh_w D ca A ad ρ_31 H → va_S A s.heap H locs → kh_lv ls 6 [] → W p l e (headSpec wsX4_reset ({ frames := 7, cells := 3, slots := 18, locals := 111 } : Room)).room s m ([.ref (ad 0 0), .int x1, .int x2, .int x3]).toArray below meth c H locs 2 12 (vx_MQ below (kh_Yv D ca A ad (f_X4_reset ρ x1 x2 x3)) (kh_X D ca A ad (f_X4_reset ρ x1 x2 x3)) ([.ref (ad 0 0), .int x1, .int x2, .int x3]).toArray s 3 18 A) (F0 m 31 ls []) := by
    intro ρ_31 H locs ls hF hw hS hl
    unfold f_X4_reset_L31 at hF
    exact kh_throw C hlt hT hw hS hl.1.1 hout hlocks (ik := 53) (is := 210) (ic := 57) (text := "the room is not DIRTY, or they reset another one") hT.2.2.2.2.1 (by decide +kernel) (by decide +kernel) kh_hg2 kh_hb2 (C.2.2.2.2.1 (.classLink RX4 53 kh_E2) (by decide +kernel)) (C.2.2.2.2.1 (.initialized kh_E2) (by decide +kernel)) dX4_reset_31 dX4_reset_34 dX4_reset_35 dX4_reset_37 dX4_reset_40 (hF0.trans hF.symm) ⟨Nat.le_of_ble_eq_true rfl, Nat.le_of_ble_eq_true rfl, Nat.le_of_ble_eq_true rfl, Nat.le_of_ble_eq_true rfl⟩ ⟨Nat.le_of_ble_eq_true rfl, Nat.le_of_ble_eq_true rfl⟩
  refine lv_aload_n C.1 C.2.1 dX4_reset_0 rfl (kh_at hl 0 rfl) ?_
  refine lv_iload_n C.1 C.2.1 dX4_reset_1 rfl (kh_at hl 1 rfl) ?_
  rcases kh_bx_ok hF with ⟨e_1, h_1, hF⟩ | ⟨r_1, h_1, hF⟩
  · refine kh_xcallX (vx_runV (As := [.int x1]) (rest := []) ⟨C.1, C.2.1, C.2.2.1, C.2.2.2.1, C.2.2.2.2.1⟩ (c_X4_roomNumbered l hlt D ca A ad ρ x1 h_1) (cwV 1 C.2.2.2.2.1 gX4_reset_X4_roomNumbered rfl rfl rfl (by decide +kernel) ⟨Nat.le_of_ble_eq_true rfl, Nat.le_of_ble_eq_true rfl⟩) (kh_preVJ C hT hw hS 0 (kh_z0 ρ) kh_kd0 rfl) rfl rfl hl.1.1 rfl (lv_room (kh_sum kh_an (Nat.le_of_ble_eq_true rfl))) dX4_reset_2 ⟨Nat.le_of_ble_eq_true rfl, Nat.le_of_ble_eq_true rfl⟩) hS (kh_pl h_1) (kh_notYq (kh_pl h_1)) (fun H locs ce q9 hw hS h7 h8 h9 => ?_)
    exact kh_out hout hlocks h7 h8 h9 hw hS (hF0.trans hF.symm) (Nat.le_of_ble_eq_true rfl) (Nat.le_of_ble_eq_true rfl)
  refine kh_xcallq (vx_runV (As := [.int x1]) (rest := []) ⟨C.1, C.2.1, C.2.2.1, C.2.2.2.1, C.2.2.2.2.1⟩ (c_X4_roomNumbered l hlt D ca A ad ρ x1 h_1) (cwV 1 C.2.2.2.2.1 gX4_reset_X4_roomNumbered rfl rfl rfl (by decide +kernel) ⟨Nat.le_of_ble_eq_true rfl, Nat.le_of_ble_eq_true rfl⟩) (kh_preVJ C hT hw hS 0 (kh_z0 ρ) kh_kd0 rfl) rfl rfl hl.1.1 rfl (lv_room (kh_sum kh_an (Nat.le_of_ble_eq_true rfl))) dX4_reset_2 ⟨Nat.le_of_ble_eq_true rfl, Nat.le_of_ble_eq_true rfl⟩) hS (kh_pr h_1) (fun H locs hw hS => ?_)
  refine kh_astore (lv' := [(4, va_rf (kh_rc ad 6 r_1)), (0, .ref (ad 0 0)), (1, .int x1), (2, .int x2), (3, .int x3)]) C.1 C.2.1 dX4_reset_5 hl (by decide) rfl (fun ls hl => ?_)
  refine lv_aload_n C.1 C.2.1 dX4_reset_7 rfl (kh_at hl 1 rfl) ?_
  refine lv_iload_n C.1 C.2.1 dX4_reset_8 rfl (kh_at hl 3 rfl) ?_
  rcases kh_bx_ok hF with ⟨e_2, h_2, hF⟩ | ⟨r_2, h_2, hF⟩
  · refine kh_xcallX (vx_runV (As := [.int x2]) (rest := []) ⟨C.1, C.2.1, C.2.2.1, C.2.2.2.1, C.2.2.2.2.1⟩ (c_X4_workerNumbered l hlt D ca A ad ρ x2 h_2) (cwV 1 C.2.2.2.2.1 gX4_reset_X4_workerNumbered rfl rfl rfl (by decide +kernel) ⟨Nat.le_of_ble_eq_true rfl, Nat.le_of_ble_eq_true rfl⟩) (kh_preVJ C hT hw hS 0 (kh_z0 ρ) kh_kd0 rfl) rfl rfl hl.1.1 rfl (lv_room (kh_sum kh_an (Nat.le_of_ble_eq_true rfl))) dX4_reset_9 ⟨Nat.le_of_ble_eq_true rfl, Nat.le_of_ble_eq_true rfl⟩) hS (kh_pl h_2) (kh_notYq (kh_pl h_2)) (fun H locs ce q9 hw hS h7 h8 h9 => ?_)
    exact kh_out hout hlocks h7 h8 h9 hw hS (hF0.trans hF.symm) (Nat.le_of_ble_eq_true rfl) (Nat.le_of_ble_eq_true rfl)
  refine kh_xcallq (vx_runV (As := [.int x2]) (rest := []) ⟨C.1, C.2.1, C.2.2.1, C.2.2.2.1, C.2.2.2.2.1⟩ (c_X4_workerNumbered l hlt D ca A ad ρ x2 h_2) (cwV 1 C.2.2.2.2.1 gX4_reset_X4_workerNumbered rfl rfl rfl (by decide +kernel) ⟨Nat.le_of_ble_eq_true rfl, Nat.le_of_ble_eq_true rfl⟩) (kh_preVJ C hT hw hS 0 (kh_z0 ρ) kh_kd0 rfl) rfl rfl hl.1.1 rfl (lv_room (kh_sum kh_an (Nat.le_of_ble_eq_true rfl))) dX4_reset_9 ⟨Nat.le_of_ble_eq_true rfl, Nat.le_of_ble_eq_true rfl⟩) hS (kh_pr h_2) (fun H locs hw hS => ?_)
  refine kh_astore (lv' := [(5, va_rf (kh_rc ad 13 r_2)), (4, va_rf (kh_rc ad 6 r_1)), (0, .ref (ad 0 0)), (1, .int x1), (2, .int x2), (3, .int x3)]) C.1 C.2.1 dX4_reset_12 hl (by decide) rfl (fun ls hl => ?_)
  refine kh_aload C.1 C.2.1 dX4_reset_14 (kh_at hl 1 rfl) ?_
  obtain ⟨g_3, hF⟩ := kh_gd_ok hF
  have v_4 := kh_in_lt g_3
  have r_5 := kh_rf (ad := ad) (k := 6) g_3
  refine kh_get C hw 6 8 r_5 v_4 kh_kd6 (Cn := RX2) (T := TX2) (N := 13) rfl (Nat.le_of_ble_eq_true rfl) k_77 (kf_6_8 ad ρ r_1.toNatClampNeg) dX4_reset_16 ?_
  refine lv_iconst (v := (2 : Int32)) C.1 C.2.1 dX4_reset_19 (by decide) ?_
  refine lv_icmp_ne (tgt := 31) C.1 C.2.1 dX4_reset_20 (by decide) (fun c_6 => ?_) (fun c_6 => ?_)
  · have hF := kh_iff hF c_6
    exact wL31 ρ _ _ _ hF hw hS (kh_sub hl [] rfl)
  · have hF := kh_ift hF c_6
    refine kh_aload C.1 C.2.1 dX4_reset_23 (kh_at hl 0 rfl) ?_
    obtain ⟨g_7, hF⟩ := kh_gd_ok hF
    have v_8 := kh_in_lt g_7
    have r_9 := kh_rf (ad := ad) (k := 13) g_7
    refine kh_get C hw 13 0 r_9 v_8 kh_kd13 (Cn := RX3) (T := TX3) (N := 3) rfl (Nat.le_of_ble_eq_true rfl) k_209 (kf_13_0 ad ρ r_2.toNatClampNeg) dX4_reset_25 ?_
    refine kh_ifnull (tgt := 41) C.1 C.2.1 dX4_reset_28 (by decide) (fun c_10 => ?_) (fun c_10 => ?_)
    · have hF := kh_ift hF c_10
      refine kh_aload C.1 C.2.1 dX4_reset_41 (kh_at hl 1 rfl) ?_
      refine lv_iconst (v := (3 : Int32)) C.1 C.2.1 dX4_reset_43 (by decide) ?_
      refine kh_putI C hw hS 6 8 r_5 v_4 kh_kd6 (by decide) (Cn := RX2) (T := TX2) (N := 13) rfl (Nat.le_of_ble_eq_true rfl) (kq_6_8) k_77 rfl (by decide +kernel) dX4_reset_44 (fun H locs hw hS => ?_)
      refine kh_aload C.1 C.2.1 dX4_reset_47 (kh_at hl 1 rfl) ?_
      refine lv_iconst (v := (0 : Int32)) C.1 C.2.1 dX4_reset_49 (by decide) ?_
      refine kh_putI C hw hS 6 10 r_5 (kh_lu v_4) kh_kd6 (by decide) (Cn := RX2) (T := TX2) (N := 13) rfl (Nat.le_of_ble_eq_true rfl) (kq_6_10) k_212 rfl (by decide +kernel) dX4_reset_50 (fun H locs hw hS => ?_)
      refine kh_aload C.1 C.2.1 dX4_reset_53 (kh_at hl 1 rfl) ?_
      refine lv_iload_n C.1 C.2.1 dX4_reset_55 rfl (kh_at hl 5 rfl) ?_
      obtain ⟨g_11, hF⟩ := kh_gd_ok hF
      refine kh_putZ C hw hS 6 11 r_5 (kh_lu (kh_lu v_4)) kh_kd6 (by decide) (Cn := RX2) (T := TX2) (N := 13) rfl (Nat.le_of_ble_eq_true rfl) (kq_6_11) k_215 rfl (by decide +kernel) g_11 dX4_reset_56 (fun H locs hw hS => ?_)
      refine kh_aload C.1 C.2.1 dX4_reset_59 (kh_at hl 0 rfl) ?_
      refine kh_aload C.1 C.2.1 dX4_reset_61 (kh_at hl 1 rfl) ?_
      obtain ⟨ρ_12, h_12, hF⟩ := kh_bd_ok hF
      refine kh_callv (va_runS (As := [va_rf (kh_rc ad 13 r_2), va_rf (kh_rc ad 6 r_1)]) (rest := []) ⟨C.1, C.2.1, C.2.2.1, C.2.2.2.1, C.2.2.2.2.1⟩ (c_X4_beginNext l D ca A ad (kh_up (kh_up (kh_up ρ 6 8 r_1.toNatClampNeg 0 (3 : Int32)) 6 10 r_1.toNatClampNeg 0 (0 : Int32)) 6 11 r_1.toNatClampNeg 0 x3) r_2 r_1 h_12) (va_cwS 2 C.2.2.2.2.1 gX4_reset_X4_beginNext rfl rfl rfl (by decide +kernel) ⟨Nat.le_of_ble_eq_true rfl, Nat.le_of_ble_eq_true rfl⟩) (kh_preS C hw hS) rfl rfl hl.1.1 rfl (lv_room (kh_sum kh_an (Nat.le_of_ble_eq_true rfl))) dX4_reset_63 ⟨Nat.le_of_ble_eq_true rfl, Nat.le_of_ble_eq_true rfl⟩) hS h_12 (fun H locs hw hS => ?_)
      refine vx_ret (W.widen (k := 3) (n := 18) (Nat.le_of_ble_eq_true rfl) (Nat.le_of_ble_eq_true rfl) ?_)
      exact W.vret C.1 C.2.1 hr (fun t ht hW => ⟨⟨ρ_12, rfl, hF0.trans hF.symm, kh_bk ht hw⟩, hS.F ht⟩) hS.2.2 dX4_reset_66
    · have hF := kh_iff hF c_10
      exact wL31 ρ _ _ _ hF hw hS (kh_sub hl [] rfl)

def f_X4_forget_L27 (ρ_27 : kh_S) : Option ((String × kh_S) ⊕ (Int32 × kh_S)) := some (.inl (kh_E2, ρ_27))
def f_X4_forget (ρ : kh_S) (x1 : Int32) : Option ((String × kh_S) ⊕ (Int32 × kh_S)) := kh_bx (f_X4_workerNumbered ρ x1) (fun e_1 => some (.inl (e_1, ρ))) (fun r_1 => kh_gd (kh_in r_1 (kh_n ρ 13)) (if (ρ 13 0 r_1.toNatClampNeg 0) < 0 then f_X4_forget_L27 ρ else if (ρ 13 1 r_1.toNatClampNeg 0) = (-1 : Int32) then f_X4_forget_L27 ρ else kh_gd (kh_in (ρ 13 0 r_1.toNatClampNeg 0) (kh_n ρ 6)) (kh_bd (f_X4_with ρ (ρ 6 10 ((ρ 13 0 r_1.toNatClampNeg 0).toNatClampNeg) 0) (ρ 13 1 r_1.toNatClampNeg 0)) (fun r_10 => kh_bd (f_X4_without (kh_up ρ 6 10 ((ρ 13 0 r_1.toNatClampNeg 0).toNatClampNeg) 0 r_10) ((kh_up ρ 6 10 ((ρ 13 0 r_1.toNatClampNeg 0).toNatClampNeg) 0 r_10) 6 9 ((ρ 13 0 r_1.toNatClampNeg 0).toNatClampNeg) 0) (ρ 13 1 r_1.toNatClampNeg 0)) (fun r_11 => kh_bd (f_X4_beginNext (kh_up (kh_up ρ 6 10 ((ρ 13 0 r_1.toNatClampNeg 0).toNatClampNeg) 0 r_10) 6 9 ((ρ 13 0 r_1.toNatClampNeg 0).toNatClampNeg) 0 r_11) r_1 (ρ 13 0 r_1.toNatClampNeg 0)) (fun ρ_12 => some (.inr (ρ 13 1 r_1.toNatClampNeg 0, ρ_12))))))))
set_option maxHeartbeats 4000000 in
set_option maxRecDepth 100000 in
theorem c_X4_forget (l : Launch) (hlt : l.stackTraces = false) (D : va_G) (ca : Nat → ClassId) (A : Nat → Prop) (ad : Nat → Nat → Nat) (ρ : kh_S) (x1 : Int32) {q0 : (String × kh_S) ⊕ (Int32 × kh_S)} (hF0 : f_X4_forget ρ x1 = some q0) : vx_Met l yX4_forget wsX4_forget ({ frames := 7, cells := 2, slots := 12, locals := 111 } : Room) (va_Pc [.ref (ad 0 0), .int x1] (kh_J D ca A ad ρ)) (kh_Yi D ca A ad (f_X4_forget ρ x1)) (kh_X D ca A ad (f_X4_forget ρ x1)) 2 12 A := by
  refine vx_ofW (cc := cX4_forget) (maxL := 5) (ret := (some .int)) (by decide) rfl ?_
  intro p e s m args below meth c s₁ B hml hout hv
  obtain ⟨rfl, ⟨hK, hw, hA⟩, hT⟩ := hv
  have C : kh_C p s m ([.ref (ad 0 0), .int x1]).toArray c cX4_forget 5 RX4 wsX4_forget D ca A := ⟨B.exec, B.bytes, hml, findClass_of_methodNamed B.named, atoms_spec (ws := wsX4_forget) B.pre, hK, hA⟩
  have hr := B.returns
  have hlocks := B.notSynchronized
  have hS : va_S A s.heap s.heap [] := va_S.rf
  have hl := kh_entry ([.ref (ad 0 0), .int x1]) (n := 5) (kh_ac rfl (kh_ac rfl kh_an)) (Nat.le_of_ble_eq_true rfl)
  rw [lg_entry_eq]
  generalize (lg_sl ([.ref (ad 0 0), .int x1]) ++ List.replicate (5 - (lg_sl ([.ref (ad 0 0), .int x1])).length) Slot.unset).toArray = ls at hl ⊢
  have hl : kh_lv ls 5 [(0, .ref (ad 0 0)), (1, .int x1)] := hl
  have k_209 := C.2.2.2.2.1 (.fieldLink RX4 209 "KeylessHall$Worker" "place" "LKeylessHall$Room;") (by decide +kernel)
  have k_223 := C.2.2.2.2.1 (.fieldLink RX4 223 "KeylessHall$Worker" "puzzle" "I") (by decide +kernel)
  have k_212 := C.2.2.2.2.1 (.fieldLink RX4 212 "KeylessHall$Room" "forgotten" "I") (by decide +kernel)
  have k_228 := C.2.2.2.2.1 (.fieldLink RX4 228 "KeylessHall$Room" "toReset" "I") (by decide +kernel)
  have hF := hF0
  unfold f_X4_forget at hF
  have wL27 : ∀ (ρ_27 : kh_S) (H : Heap) (locs : List Loc) (ls : Array Slot), f_X4_forget_L27 ρ_27 = some q0 → kh_w D ca A ad ρ_27 H → va_S A s.heap H locs → kh_lv ls 5 [] → W p l e (headSpec wsX4_forget ({ frames := 7, cells := 2, slots := 12, locals := 111 } : Room)).room s m ([.ref (ad 0 0), .int x1]).toArray below meth c H locs 1 6 (vx_MQ below (kh_Yi D ca A ad (f_X4_forget ρ x1)) (kh_X D ca A ad (f_X4_forget ρ x1)) ([.ref (ad 0 0), .int x1]).toArray s 2 12 A) (F0 m 27 ls []) := by
    intro ρ_27 H locs ls hF hw hS hl
    unfold f_X4_forget_L27 at hF
    exact kh_throw C hlt hT hw hS hl.1.1 hout hlocks (ik := 53) (is := 226) (ic := 57) (text := "they do not reset a puzzle now") hT.2.2.2.2.1 (by decide +kernel) (by decide +kernel) kh_hg2 kh_hb2 (C.2.2.2.2.1 (.classLink RX4 53 kh_E2) (by decide +kernel)) (C.2.2.2.2.1 (.initialized kh_E2) (by decide +kernel)) dX4_forget_27 dX4_forget_30 dX4_forget_31 dX4_forget_33 dX4_forget_36 (hF0.trans hF.symm) ⟨Nat.le_of_ble_eq_true rfl, Nat.le_of_ble_eq_true rfl, Nat.le_of_ble_eq_true rfl, Nat.le_of_ble_eq_true rfl⟩ ⟨Nat.le_of_ble_eq_true rfl, Nat.le_of_ble_eq_true rfl⟩
  refine lv_aload_n C.1 C.2.1 dX4_forget_0 rfl (kh_at hl 0 rfl) ?_
  refine lv_iload_n C.1 C.2.1 dX4_forget_1 rfl (kh_at hl 1 rfl) ?_
  rcases kh_bx_ok hF with ⟨e_1, h_1, hF⟩ | ⟨r_1, h_1, hF⟩
  · refine kh_xcallX (vx_runV (As := [.int x1]) (rest := []) ⟨C.1, C.2.1, C.2.2.1, C.2.2.2.1, C.2.2.2.2.1⟩ (c_X4_workerNumbered l hlt D ca A ad ρ x1 h_1) (cwV 1 C.2.2.2.2.1 gX4_forget_X4_workerNumbered rfl rfl rfl (by decide +kernel) ⟨Nat.le_of_ble_eq_true rfl, Nat.le_of_ble_eq_true rfl⟩) (kh_preVJ C hT hw hS 0 (kh_z0 ρ) kh_kd0 rfl) rfl rfl hl.1.1 rfl (lv_room (kh_sum kh_an (Nat.le_of_ble_eq_true rfl))) dX4_forget_2 ⟨Nat.le_of_ble_eq_true rfl, Nat.le_of_ble_eq_true rfl⟩) hS (kh_pl h_1) (kh_notYq (kh_pl h_1)) (fun H locs ce q9 hw hS h7 h8 h9 => ?_)
    exact kh_out hout hlocks h7 h8 h9 hw hS (hF0.trans hF.symm) (Nat.le_of_ble_eq_true rfl) (Nat.le_of_ble_eq_true rfl)
  refine kh_xcallq (vx_runV (As := [.int x1]) (rest := []) ⟨C.1, C.2.1, C.2.2.1, C.2.2.2.1, C.2.2.2.2.1⟩ (c_X4_workerNumbered l hlt D ca A ad ρ x1 h_1) (cwV 1 C.2.2.2.2.1 gX4_forget_X4_workerNumbered rfl rfl rfl (by decide +kernel) ⟨Nat.le_of_ble_eq_true rfl, Nat.le_of_ble_eq_true rfl⟩) (kh_preVJ C hT hw hS 0 (kh_z0 ρ) kh_kd0 rfl) rfl rfl hl.1.1 rfl (lv_room (kh_sum kh_an (Nat.le_of_ble_eq_true rfl))) dX4_forget_2 ⟨Nat.le_of_ble_eq_true rfl, Nat.le_of_ble_eq_true rfl⟩) hS (kh_pr h_1) (fun H locs hw hS => ?_)
  refine kh_astore_n (lv' := [(2, va_rf (kh_rc ad 13 r_1)), (0, .ref (ad 0 0)), (1, .int x1)]) C.1 C.2.1 dX4_forget_5 rfl hl (by decide) rfl (fun ls hl => ?_)
  refine kh_aload_n C.1 C.2.1 dX4_forget_6 rfl (kh_at hl 0 rfl) ?_
  obtain ⟨g_2, hF⟩ := kh_gd_ok hF
  have v_3 := kh_in_lt g_2
  have r_4 := kh_rf (ad := ad) (k := 13) g_2
  refine kh_get C hw 13 0 r_4 v_3 kh_kd13 (Cn := RX3) (T := TX3) (N := 3) rfl (Nat.le_of_ble_eq_true rfl) k_209 (kf_13_0 ad ρ r_1.toNatClampNeg) dX4_forget_7 ?_
  refine kh_astore_n (lv' := [(3, va_rf (kh_rc ad 6 (ρ 13 0 r_1.toNatClampNeg 0))), (2, va_rf (kh_rc ad 13 r_1)), (0, .ref (ad 0 0)), (1, .int x1)]) C.1 C.2.1 dX4_forget_10 rfl hl (by decide) rfl (fun ls hl => ?_)
  refine kh_aload_n C.1 C.2.1 dX4_forget_11 rfl (kh_at hl 1 rfl) ?_
  refine kh_get C hw 13 1 r_4 v_3 kh_kd13 (Cn := RX3) (T := TX3) (N := 3) rfl (Nat.le_of_ble_eq_true rfl) k_223 (kf_13_1 ad ρ r_1.toNatClampNeg) dX4_forget_12 ?_
  refine kh_istore (lv' := [(4, .int (ρ 13 1 r_1.toNatClampNeg 0)), (3, va_rf (kh_rc ad 6 (ρ 13 0 r_1.toNatClampNeg 0))), (2, va_rf (kh_rc ad 13 r_1)), (0, .ref (ad 0 0)), (1, .int x1)]) C.1 C.2.1 dX4_forget_15 hl (by decide) rfl (fun ls hl => ?_)
  refine kh_aload_n C.1 C.2.1 dX4_forget_17 rfl (kh_at hl 1 rfl) ?_
  refine kh_ifnull (tgt := 27) C.1 C.2.1 dX4_forget_18 (by decide) (fun c_5 => ?_) (fun c_5 => ?_)
  · have hF := kh_ift hF c_5
    exact wL27 ρ _ _ _ hF hw hS (kh_sub hl [] rfl)
  · have hF := kh_iff hF c_5
    refine lv_iload C.1 C.2.1 dX4_forget_21 (kh_at hl 0 rfl) ?_
    refine lv_iconst (v := (-1 : Int32)) C.1 C.2.1 dX4_forget_23 (by decide) ?_
    refine lv_icmp_ne (tgt := 37) C.1 C.2.1 dX4_forget_24 (by decide) (fun c_6 => ?_) (fun c_6 => ?_)
    · have hF := kh_iff hF c_6
      refine kh_aload_n C.1 C.2.1 dX4_forget_37 rfl (kh_at hl 1 rfl) ?_
      refine kh_aload_n C.1 C.2.1 dX4_forget_38 rfl (kh_at hl 1 rfl) ?_
      obtain ⟨g_7, hF⟩ := kh_gd_ok hF
      have v_8 := kh_in_lt g_7
      have r_9 := kh_rf (ad := ad) (k := 6) g_7
      refine kh_get C hw 6 10 r_9 v_8 kh_kd6 (Cn := RX2) (T := TX2) (N := 13) rfl (Nat.le_of_ble_eq_true rfl) k_212 (kf_6_10 ad ρ ((ρ 13 0 r_1.toNatClampNeg 0).toNatClampNeg)) dX4_forget_39 ?_
      refine lv_iload C.1 C.2.1 dX4_forget_42 (kh_at hl 0 rfl) ?_
      obtain ⟨r_10, h_10, hF⟩ := kh_bd_ok hF
      refine kh_calli (va_runS (As := [.int (ρ 6 10 ((ρ 13 0 r_1.toNatClampNeg 0).toNatClampNeg) 0), .int (ρ 13 1 r_1.toNatClampNeg 0)]) (rest := [va_rf (kh_rc ad 6 (ρ 13 0 r_1.toNatClampNeg 0))]) ⟨C.1, C.2.1, C.2.2.1, C.2.2.2.1, C.2.2.2.2.1⟩ (c_X4_with l D ca A ad ρ (ρ 6 10 ((ρ 13 0 r_1.toNatClampNeg 0).toNatClampNeg) 0) (ρ 13 1 r_1.toNatClampNeg 0) h_10) (va_cwS 2 C.2.2.2.2.1 gX4_forget_X4_with rfl rfl rfl (by decide +kernel) ⟨Nat.le_of_ble_eq_true rfl, Nat.le_of_ble_eq_true rfl⟩) (kh_preS C hw hS) rfl rfl hl.1.1 rfl (lv_room (kh_sum (kh_ac (kh_c1 _) kh_an) (Nat.le_of_ble_eq_true rfl))) dX4_forget_44 ⟨Nat.le_of_ble_eq_true rfl, Nat.le_of_ble_eq_true rfl⟩) hS (kh_mp h_10) (fun H locs hw hS => ?_)
      refine kh_putI C hw hS 6 10 r_9 v_8 kh_kd6 (by decide) (Cn := RX2) (T := TX2) (N := 13) rfl (Nat.le_of_ble_eq_true rfl) (kq_6_10) k_212 rfl (by decide +kernel) dX4_forget_47 (fun H locs hw hS => ?_)
      refine kh_aload_n C.1 C.2.1 dX4_forget_50 rfl (kh_at hl 1 rfl) ?_
      refine kh_aload_n C.1 C.2.1 dX4_forget_51 rfl (kh_at hl 1 rfl) ?_
      refine kh_get C hw 6 9 r_9 (kh_lu v_8) kh_kd6 (Cn := RX2) (T := TX2) (N := 13) rfl (Nat.le_of_ble_eq_true rfl) k_228 (kf_6_9 ad (kh_up ρ 6 10 ((ρ 13 0 r_1.toNatClampNeg 0).toNatClampNeg) 0 r_10) ((ρ 13 0 r_1.toNatClampNeg 0).toNatClampNeg)) dX4_forget_52 ?_
      refine lv_iload C.1 C.2.1 dX4_forget_55 (kh_at hl 0 rfl) ?_
      obtain ⟨r_11, h_11, hF⟩ := kh_bd_ok hF
      refine kh_calli (va_runS (As := [.int ((kh_up ρ 6 10 ((ρ 13 0 r_1.toNatClampNeg 0).toNatClampNeg) 0 r_10) 6 9 ((ρ 13 0 r_1.toNatClampNeg 0).toNatClampNeg) 0), .int (ρ 13 1 r_1.toNatClampNeg 0)]) (rest := [va_rf (kh_rc ad 6 (ρ 13 0 r_1.toNatClampNeg 0))]) ⟨C.1, C.2.1, C.2.2.1, C.2.2.2.1, C.2.2.2.2.1⟩ (c_X4_without l D ca A ad (kh_up ρ 6 10 ((ρ 13 0 r_1.toNatClampNeg 0).toNatClampNeg) 0 r_10) ((kh_up ρ 6 10 ((ρ 13 0 r_1.toNatClampNeg 0).toNatClampNeg) 0 r_10) 6 9 ((ρ 13 0 r_1.toNatClampNeg 0).toNatClampNeg) 0) (ρ 13 1 r_1.toNatClampNeg 0) h_11) (va_cwS 2 C.2.2.2.2.1 gX4_forget_X4_without rfl rfl rfl (by decide +kernel) ⟨Nat.le_of_ble_eq_true rfl, Nat.le_of_ble_eq_true rfl⟩) (kh_preS C hw hS) rfl rfl hl.1.1 rfl (lv_room (kh_sum (kh_ac (kh_c1 _) kh_an) (Nat.le_of_ble_eq_true rfl))) dX4_forget_57 ⟨Nat.le_of_ble_eq_true rfl, Nat.le_of_ble_eq_true rfl⟩) hS (kh_mp h_11) (fun H locs hw hS => ?_)
      refine kh_putI C hw hS 6 9 r_9 (kh_lu v_8) kh_kd6 (by decide) (Cn := RX2) (T := TX2) (N := 13) rfl (Nat.le_of_ble_eq_true rfl) (kq_6_9) k_228 rfl (by decide +kernel) dX4_forget_60 (fun H locs hw hS => ?_)
      refine kh_aload_n C.1 C.2.1 dX4_forget_63 rfl (kh_at hl 2 rfl) ?_
      refine kh_aload_n C.1 C.2.1 dX4_forget_64 rfl (kh_at hl 1 rfl) ?_
      obtain ⟨ρ_12, h_12, hF⟩ := kh_bd_ok hF
      refine kh_callv (va_runS (As := [va_rf (kh_rc ad 13 r_1), va_rf (kh_rc ad 6 (ρ 13 0 r_1.toNatClampNeg 0))]) (rest := []) ⟨C.1, C.2.1, C.2.2.1, C.2.2.2.1, C.2.2.2.2.1⟩ (c_X4_beginNext l D ca A ad (kh_up (kh_up ρ 6 10 ((ρ 13 0 r_1.toNatClampNeg 0).toNatClampNeg) 0 r_10) 6 9 ((ρ 13 0 r_1.toNatClampNeg 0).toNatClampNeg) 0 r_11) r_1 (ρ 13 0 r_1.toNatClampNeg 0) h_12) (va_cwS 2 C.2.2.2.2.1 gX4_forget_X4_beginNext rfl rfl rfl (by decide +kernel) ⟨Nat.le_of_ble_eq_true rfl, Nat.le_of_ble_eq_true rfl⟩) (kh_preS C hw hS) rfl rfl hl.1.1 rfl (lv_room (kh_sum kh_an (Nat.le_of_ble_eq_true rfl))) dX4_forget_65 ⟨Nat.le_of_ble_eq_true rfl, Nat.le_of_ble_eq_true rfl⟩) hS h_12 (fun H locs hw hS => ?_)
      refine lv_iload C.1 C.2.1 dX4_forget_68 (kh_at hl 0 rfl) ?_
      refine vx_ret (W.widen (k := 2) (n := 12) (Nat.le_of_ble_eq_true rfl) (Nat.le_of_ble_eq_true rfl) ?_)
      exact W.iret (v := ρ 13 1 r_1.toNatClampNeg 0) C.1 C.2.1 hr (fun t ht hW => ⟨⟨ρ 13 1 r_1.toNatClampNeg 0, ρ_12, rfl, hF0.trans hF.symm, kh_bk ht hw⟩, hS.F ht⟩) hS.2.2 dX4_forget_70
    · have hF := kh_ift hF c_6
      exact wL27 ρ _ _ _ hF hw hS (kh_sub hl [] rfl)

def f_X4_cancel (ρ : kh_S) (x1 : Int32) : Option ((String × kh_S) ⊕ kh_S) := kh_bx (f_X4_bookingNumbered ρ x1) (fun e_1 => some (.inl (e_1, ρ))) (fun r_1 => kh_gd (kh_in r_1 (kh_n ρ 14)) (if (ρ 14 2 r_1.toNatClampNeg 0) = 0 then some (.inr (kh_up ρ 14 2 r_1.toNatClampNeg 0 (2 : Int32))) else some (.inl (kh_E2, ρ))))
set_option maxHeartbeats 4000000 in
set_option maxRecDepth 100000 in
theorem c_X4_cancel (l : Launch) (hlt : l.stackTraces = false) (D : va_G) (ca : Nat → ClassId) (A : Nat → Prop) (ad : Nat → Nat → Nat) (ρ : kh_S) (x1 : Int32) {q0 : (String × kh_S) ⊕ kh_S} (hF0 : f_X4_cancel ρ x1 = some q0) : vx_Met l yX4_cancel wsX4_cancel ({ frames := 7, cells := 2, slots := 12, locals := 111 } : Room) (va_Pc [.ref (ad 0 0), .int x1] (kh_J D ca A ad ρ)) (kh_Yv D ca A ad (f_X4_cancel ρ x1)) (kh_X D ca A ad (f_X4_cancel ρ x1)) 2 12 A := by
  refine vx_ofW (cc := cX4_cancel) (maxL := 3) (ret := none) (by decide) rfl ?_
  intro p e s m args below meth c s₁ B hml hout hv
  obtain ⟨rfl, ⟨hK, hw, hA⟩, hT⟩ := hv
  have C : kh_C p s m ([.ref (ad 0 0), .int x1]).toArray c cX4_cancel 3 RX4 wsX4_cancel D ca A := ⟨B.exec, B.bytes, hml, findClass_of_methodNamed B.named, atoms_spec (ws := wsX4_cancel) B.pre, hK, hA⟩
  have hr := B.returns
  have hlocks := B.notSynchronized
  have hS : va_S A s.heap s.heap [] := va_S.rf
  have hl := kh_entry ([.ref (ad 0 0), .int x1]) (n := 3) (kh_ac rfl (kh_ac rfl kh_an)) (Nat.le_of_ble_eq_true rfl)
  rw [lg_entry_eq]
  generalize (lg_sl ([.ref (ad 0 0), .int x1]) ++ List.replicate (3 - (lg_sl ([.ref (ad 0 0), .int x1])).length) Slot.unset).toArray = ls at hl ⊢
  have hl : kh_lv ls 3 [(0, .ref (ad 0 0)), (1, .int x1)] := hl
  have k_252 := C.2.2.2.2.1 (.fieldLink RX4 252 "KeylessHall$Booking" "how" "I") (by decide +kernel)
  have hF := hF0
  unfold f_X4_cancel at hF
  refine lv_aload_n C.1 C.2.1 dX4_cancel_0 rfl (kh_at hl 0 rfl) ?_
  refine lv_iload_n C.1 C.2.1 dX4_cancel_1 rfl (kh_at hl 1 rfl) ?_
  rcases kh_bx_ok hF with ⟨e_1, h_1, hF⟩ | ⟨r_1, h_1, hF⟩
  · refine kh_xcallX (vx_runV (As := [.int x1]) (rest := []) ⟨C.1, C.2.1, C.2.2.1, C.2.2.2.1, C.2.2.2.2.1⟩ (c_X4_bookingNumbered l hlt D ca A ad ρ x1 h_1) (cwV 1 C.2.2.2.2.1 gX4_cancel_X4_bookingNumbered rfl rfl rfl (by decide +kernel) ⟨Nat.le_of_ble_eq_true rfl, Nat.le_of_ble_eq_true rfl⟩) (kh_preVJ C hT hw hS 0 (kh_z0 ρ) kh_kd0 rfl) rfl rfl hl.1.1 rfl (lv_room (kh_sum kh_an (Nat.le_of_ble_eq_true rfl))) dX4_cancel_2 ⟨Nat.le_of_ble_eq_true rfl, Nat.le_of_ble_eq_true rfl⟩) hS (kh_pl h_1) (kh_notYq (kh_pl h_1)) (fun H locs ce q9 hw hS h7 h8 h9 => ?_)
    exact kh_out hout hlocks h7 h8 h9 hw hS (hF0.trans hF.symm) (Nat.le_of_ble_eq_true rfl) (Nat.le_of_ble_eq_true rfl)
  refine kh_xcallq (vx_runV (As := [.int x1]) (rest := []) ⟨C.1, C.2.1, C.2.2.1, C.2.2.2.1, C.2.2.2.2.1⟩ (c_X4_bookingNumbered l hlt D ca A ad ρ x1 h_1) (cwV 1 C.2.2.2.2.1 gX4_cancel_X4_bookingNumbered rfl rfl rfl (by decide +kernel) ⟨Nat.le_of_ble_eq_true rfl, Nat.le_of_ble_eq_true rfl⟩) (kh_preVJ C hT hw hS 0 (kh_z0 ρ) kh_kd0 rfl) rfl rfl hl.1.1 rfl (lv_room (kh_sum kh_an (Nat.le_of_ble_eq_true rfl))) dX4_cancel_2 ⟨Nat.le_of_ble_eq_true rfl, Nat.le_of_ble_eq_true rfl⟩) hS (kh_pr h_1) (fun H locs hw hS => ?_)
  refine kh_astore_n (lv' := [(2, va_rf (kh_rc ad 14 r_1)), (0, .ref (ad 0 0)), (1, .int x1)]) C.1 C.2.1 dX4_cancel_5 rfl hl (by decide) rfl (fun ls hl => ?_)
  refine kh_aload_n C.1 C.2.1 dX4_cancel_6 rfl (kh_at hl 0 rfl) ?_
  obtain ⟨g_2, hF⟩ := kh_gd_ok hF
  have v_3 := kh_in_lt g_2
  have r_4 := kh_rf (ad := ad) (k := 14) g_2
  refine kh_get C hw 14 2 r_4 v_3 kh_kd14 (Cn := RX0) (T := TX0) (N := 4) rfl (Nat.le_of_ble_eq_true rfl) k_252 (kf_14_2 ad ρ r_1.toNatClampNeg) dX4_cancel_7 ?_
  refine lv_if_eq (tgt := 23) C.1 C.2.1 dX4_cancel_10 (by decide) (fun c_5 => ?_) (fun c_5 => ?_)
  · have hF := kh_ift hF c_5
    refine kh_aload_n C.1 C.2.1 dX4_cancel_23 rfl (kh_at hl 0 rfl) ?_
    refine lv_iconst (v := (2 : Int32)) C.1 C.2.1 dX4_cancel_24 (by decide) ?_
    refine kh_putI C hw hS 14 2 r_4 v_3 kh_kd14 (by decide) (Cn := RX0) (T := TX0) (N := 4) rfl (Nat.le_of_ble_eq_true rfl) (kq_14_2) k_252 rfl (by decide +kernel) dX4_cancel_25 (fun H locs hw hS => ?_)
    refine vx_ret (W.widen (k := 2) (n := 12) (Nat.le_of_ble_eq_true rfl) (Nat.le_of_ble_eq_true rfl) ?_)
    exact W.vret C.1 C.2.1 hr (fun t ht hW => ⟨⟨kh_up ρ 14 2 r_1.toNatClampNeg 0 (2 : Int32), rfl, hF0.trans hF.symm, kh_bk ht hw⟩, hS.F ht⟩) hS.2.2 dX4_cancel_28
  · have hF := kh_iff hF c_5
    exact kh_throw C hlt hT hw hS hl.1.1 hout hlocks (ik := 53) (is := 253) (ic := 57) (text := "the booking is not OPEN") hT.2.2.2.2.1 (by decide +kernel) (by decide +kernel) kh_hg2 kh_hb2 (C.2.2.2.2.1 (.classLink RX4 53 kh_E2) (by decide +kernel)) (C.2.2.2.2.1 (.initialized kh_E2) (by decide +kernel)) dX4_cancel_13 dX4_cancel_16 dX4_cancel_17 dX4_cancel_19 dX4_cancel_22 (hF0.trans hF.symm) ⟨Nat.le_of_ble_eq_true rfl, Nat.le_of_ble_eq_true rfl, Nat.le_of_ble_eq_true rfl, Nat.le_of_ble_eq_true rfl⟩ ⟨Nat.le_of_ble_eq_true rfl, Nat.le_of_ble_eq_true rfl⟩

def f_X4_offer_L56 (ρ : kh_S) (t0_56 : Int32) : Option (String ⊕ Int32) := some (.inr t0_56)
def f_X4_offer_L17 (ρ : kh_S) : Option (String ⊕ Int32) := some (.inl kh_E1)
def f_X4_offer (ρ : kh_S) (x1 : Int32) (x2 : Int32) : Option (String ⊕ Int32) := kh_bx (f_X4_roomNumbered ρ x1) (fun e_1 => some (.inl e_1)) (fun r_1 => if x2 < 0 then f_X4_offer_L17 ρ else if x2 ≤ (4940 : Int32) then kh_bd (f_X4_firstFree ρ r_1 (if x2 < (ρ 0 8 0 0) then (ρ 0 8 0 0) else x2)) (fun r_4 => if (4940 : Int32) < r_4 then f_X4_offer_L56 ρ (-1 : Int32) else f_X4_offer_L56 ρ r_4) else f_X4_offer_L17 ρ)
set_option maxHeartbeats 4000000 in
set_option maxRecDepth 100000 in
theorem c_X4_offer (l : Launch) (hlt : l.stackTraces = false) (D : va_G) (ca : Nat → ClassId) (A : Nat → Prop) (ad : Nat → Nat → Nat) (ρ : kh_S) (x1 : Int32) (x2 : Int32) {q0 : String ⊕ Int32} (hF0 : f_X4_offer ρ x1 x2 = some q0) : vx_Met l yX4_offer wsX4_offer ({ frames := 7, cells := 2, slots := 12, locals := 111 } : Room) (va_Pc [.ref (ad 0 0), .int x1, .int x2] (kh_J D ca A ad ρ)) (kh_Yi D ca A ad (kh_pt (f_X4_offer ρ x1 x2) ρ)) (kh_X D ca A ad (kh_pt (f_X4_offer ρ x1 x2) ρ)) 2 12 A := by
  refine vx_ofW (cc := cX4_offer) (maxL := 5) (ret := (some .int)) (by decide) rfl ?_
  intro p e s m args below meth c s₁ B hml hout hv
  obtain ⟨rfl, ⟨hK, hw, hA⟩, hT⟩ := hv
  have C : kh_C p s m ([.ref (ad 0 0), .int x1, .int x2]).toArray c cX4_offer 5 RX4 wsX4_offer D ca A := ⟨B.exec, B.bytes, hml, findClass_of_methodNamed B.named, atoms_spec (ws := wsX4_offer) B.pre, hK, hA⟩
  have hr := B.returns
  have hlocks := B.notSynchronized
  have hS : va_S A s.heap s.heap [] := va_S.rf
  have hl := kh_entry ([.ref (ad 0 0), .int x1, .int x2]) (n := 5) (kh_ac rfl (kh_ac rfl (kh_ac rfl kh_an))) (Nat.le_of_ble_eq_true rfl)
  rw [lg_entry_eq]
  generalize (lg_sl ([.ref (ad 0 0), .int x1, .int x2]) ++ List.replicate (5 - (lg_sl ([.ref (ad 0 0), .int x1, .int x2])).length) Slot.unset).toArray = ls at hl ⊢
  have hl : kh_lv ls 5 [(0, .ref (ad 0 0)), (1, .int x1), (2, .int x2)] := hl
  have k_231 := C.2.2.2.2.1 (.fieldLink RX4 231 "KeylessHall" "now" "I") (by decide +kernel)
  have hF := hF0
  unfold f_X4_offer at hF
  have wL56 : ∀ (t0_56 : Int32) (H : Heap) (locs : List Loc) (ls : Array Slot), f_X4_offer_L56 ρ t0_56 = some q0 → kh_w D ca A ad ρ H → va_S A s.heap H locs → kh_lv ls 5 [] → W p l e (headSpec wsX4_offer ({ frames := 7, cells := 2, slots := 12, locals := 111 } : Room)).room s m ([.ref (ad 0 0), .int x1, .int x2]).toArray below meth c H locs 1 6 (vx_MQ below (kh_Yi D ca A ad (kh_pt (f_X4_offer ρ x1 x2) ρ)) (kh_X D ca A ad (kh_pt (f_X4_offer ρ x1 x2) ρ)) ([.ref (ad 0 0), .int x1, .int x2]).toArray s 2 12 A) (F0 m 56 ls [.int t0_56]) := by
    intro t0_56 H locs ls hF hw hS hl
    unfold f_X4_offer_L56 at hF
    refine vx_ret (W.widen (k := 2) (n := 12) (Nat.le_of_ble_eq_true rfl) (Nat.le_of_ble_eq_true rfl) ?_)
    exact W.iret (v := t0_56) C.1 C.2.1 hr (fun t ht hW => ⟨⟨t0_56, ρ, rfl, kh_pr (hF0.trans hF.symm), kh_bk ht hw⟩, hS.F ht⟩) hS.2.2 dX4_offer_56
  have wL17 : ∀ (H : Heap) (locs : List Loc) (ls : Array Slot), f_X4_offer_L17 ρ = some q0 → kh_w D ca A ad ρ H → va_S A s.heap H locs → kh_lv ls 5 [] → W p l e (headSpec wsX4_offer ({ frames := 7, cells := 2, slots := 12, locals := 111 } : Room)).room s m ([.ref (ad 0 0), .int x1, .int x2]).toArray below meth c H locs 1 6 (vx_MQ below (kh_Yi D ca A ad (kh_pt (f_X4_offer ρ x1 x2) ρ)) (kh_X D ca A ad (kh_pt (f_X4_offer ρ x1 x2) ρ)) ([.ref (ad 0 0), .int x1, .int x2]).toArray s 2 12 A) (F0 m 17 ls []) := by
    intro  H locs ls hF hw hS hl
    unfold f_X4_offer_L17 at hF
    exact kh_throw C hlt hT hw hS hl.1.1 hout hlocks (ik := 42) (is := 255) (ic := 46) (text := "minutes are 0 to 4940") hT.2.2.2.1 (by decide +kernel) (by decide +kernel) kh_hg1 kh_hb1 (C.2.2.2.2.1 (.classLink RX4 42 kh_E1) (by decide +kernel)) (C.2.2.2.2.1 (.initialized kh_E1) (by decide +kernel)) dX4_offer_17 dX4_offer_20 dX4_offer_21 dX4_offer_23 dX4_offer_26 (kh_pl (hF0.trans hF.symm)) ⟨Nat.le_of_ble_eq_true rfl, Nat.le_of_ble_eq_true rfl, Nat.le_of_ble_eq_true rfl, Nat.le_of_ble_eq_true rfl⟩ ⟨Nat.le_of_ble_eq_true rfl, Nat.le_of_ble_eq_true rfl⟩
  refine lv_aload_n C.1 C.2.1 dX4_offer_0 rfl (kh_at hl 0 rfl) ?_
  refine lv_iload_n C.1 C.2.1 dX4_offer_1 rfl (kh_at hl 1 rfl) ?_
  rcases kh_bx_ok hF with ⟨e_1, h_1, hF⟩ | ⟨r_1, h_1, hF⟩
  · refine kh_xcallX (vx_runV (As := [.int x1]) (rest := []) ⟨C.1, C.2.1, C.2.2.1, C.2.2.2.1, C.2.2.2.2.1⟩ (c_X4_roomNumbered l hlt D ca A ad ρ x1 h_1) (cwV 1 C.2.2.2.2.1 gX4_offer_X4_roomNumbered rfl rfl rfl (by decide +kernel) ⟨Nat.le_of_ble_eq_true rfl, Nat.le_of_ble_eq_true rfl⟩) (kh_preVJ C hT hw hS 0 (kh_z0 ρ) kh_kd0 rfl) rfl rfl hl.1.1 rfl (lv_room (kh_sum kh_an (Nat.le_of_ble_eq_true rfl))) dX4_offer_2 ⟨Nat.le_of_ble_eq_true rfl, Nat.le_of_ble_eq_true rfl⟩) hS (kh_pl h_1) (kh_notYq (kh_pl h_1)) (fun H locs ce q9 hw hS h7 h8 h9 => ?_)
    exact kh_out hout hlocks h7 h8 h9 hw hS (kh_pl (hF0.trans hF.symm)) (Nat.le_of_ble_eq_true rfl) (Nat.le_of_ble_eq_true rfl)
  refine kh_xcallq (vx_runV (As := [.int x1]) (rest := []) ⟨C.1, C.2.1, C.2.2.1, C.2.2.2.1, C.2.2.2.2.1⟩ (c_X4_roomNumbered l hlt D ca A ad ρ x1 h_1) (cwV 1 C.2.2.2.2.1 gX4_offer_X4_roomNumbered rfl rfl rfl (by decide +kernel) ⟨Nat.le_of_ble_eq_true rfl, Nat.le_of_ble_eq_true rfl⟩) (kh_preVJ C hT hw hS 0 (kh_z0 ρ) kh_kd0 rfl) rfl rfl hl.1.1 rfl (lv_room (kh_sum kh_an (Nat.le_of_ble_eq_true rfl))) dX4_offer_2 ⟨Nat.le_of_ble_eq_true rfl, Nat.le_of_ble_eq_true rfl⟩) hS (kh_pr h_1) (fun H locs hw hS => ?_)
  refine kh_astore_n (lv' := [(3, va_rf (kh_rc ad 6 r_1)), (0, .ref (ad 0 0)), (1, .int x1), (2, .int x2)]) C.1 C.2.1 dX4_offer_5 rfl hl (by decide) rfl (fun ls hl => ?_)
  refine lv_iload_n C.1 C.2.1 dX4_offer_6 rfl (kh_at hl 3 rfl) ?_
  refine lv_if_lt (tgt := 17) C.1 C.2.1 dX4_offer_7 (by decide) (fun c_2 => ?_) (fun c_2 => ?_)
  · have hF := kh_ift hF c_2
    exact wL17  _ _ _ hF hw hS (kh_sub hl [] rfl)
  · have hF := kh_iff hF c_2
    refine lv_iload_n C.1 C.2.1 dX4_offer_10 rfl (kh_at hl 3 rfl) ?_
    refine lv_sipush (v := (4940 : Int32)) C.1 C.2.1 dX4_offer_11 (by decide) ?_
    refine lv_icmp_le (tgt := 27) C.1 C.2.1 dX4_offer_14 (by decide) (fun c_3 => ?_) (fun c_3 => ?_)
    · have hF := kh_ift hF c_3
      refine lv_aload_n C.1 C.2.1 dX4_offer_27 rfl (kh_at hl 1 rfl) ?_
      refine kh_aload_n C.1 C.2.1 dX4_offer_28 rfl (kh_at hl 0 rfl) ?_
      refine lv_iload_n C.1 C.2.1 dX4_offer_29 rfl (kh_at hl 3 rfl) ?_
      refine lv_aload_n C.1 C.2.1 dX4_offer_30 rfl (kh_at hl 1 rfl) ?_
      refine kh_get C hw 0 8 rfl (kh_z0 ρ) kh_kd0 (Cn := RX4) (T := TX4) (N := 10) rfl (Nat.le_of_ble_eq_true rfl) k_231 (kf_0_8 ad ρ 0) dX4_offer_31 ?_
      refine va_mmax (own := RX4) C.1 C.2.1 (C.2.2.1.trans hl.1.1.symm) C.2.2.2.1 (C.2.2.2.2.1 (.methodLink RX4 257 Lib.Math.max.name) (by decide +kernel)) (C.2.2.2.2.1 (.static Lib.Math.max.name) (by decide +kernel)) (C.2.2.2.2.1 (.initialized "java/lang/Math") (by decide +kernel)) (C.2.2.2.2.1 (.code Lib.Math.max.name Lib.Math.max.code 2 (some .int)) (by decide +kernel)) (Nat.le_of_ble_eq_true rfl) (Nat.le_trans (Nat.add_le_add_right (kh_sum (kh_ac (kh_c1 _) (kh_ac rfl kh_an)) (Nat.le_of_ble_eq_true rfl)) 13) (Nat.le_of_ble_eq_true rfl)) (Nat.le_of_ble_eq_true rfl) (Nat.le_of_ble_eq_true rfl) dX4_offer_34 ?_
      obtain ⟨r_4, h_4, hF⟩ := kh_bd_ok hF
      refine kh_calli (va_runV (As := [va_rf (kh_rc ad 6 r_1), .int (if x2 < (ρ 0 8 0 0) then (ρ 0 8 0 0) else x2)]) (rest := []) ⟨C.1, C.2.1, C.2.2.1, C.2.2.2.1, C.2.2.2.2.1⟩ (c_X4_firstFree l D ca A ad ρ r_1 (if x2 < (ρ 0 8 0 0) then (ρ 0 8 0 0) else x2) h_4) (cwV 2 C.2.2.2.2.1 gX4_offer_X4_firstFree rfl rfl rfl (by decide +kernel) ⟨Nat.le_of_ble_eq_true rfl, Nat.le_of_ble_eq_true rfl⟩) (kh_preV C hw hS 0 (kh_z0 ρ) kh_kd0 rfl) rfl rfl hl.1.1 rfl (lv_room (kh_sum kh_an (Nat.le_of_ble_eq_true rfl))) dX4_offer_37 ⟨Nat.le_of_ble_eq_true rfl, Nat.le_of_ble_eq_true rfl⟩) hS (kh_mp h_4) (fun H locs hw hS => ?_)
      refine kh_istore (lv' := [(4, .int r_4), (3, va_rf (kh_rc ad 6 r_1)), (0, .ref (ad 0 0)), (1, .int x1), (2, .int x2)]) C.1 C.2.1 dX4_offer_40 hl (by decide) rfl (fun ls hl => ?_)
      refine lv_iload C.1 C.2.1 dX4_offer_42 (kh_at hl 0 rfl) ?_
      refine lv_sipush (v := (4940 : Int32)) C.1 C.2.1 dX4_offer_44 (by decide) ?_
      refine lv_icmp_gt (tgt := 55) C.1 C.2.1 dX4_offer_47 (by decide) (fun c_5 => ?_) (fun c_5 => ?_)
      · have hF := kh_ift hF c_5
        refine lv_iconst (v := (-1 : Int32)) C.1 C.2.1 dX4_offer_55 (by decide) ?_
        exact wL56 (-1 : Int32) _ _ _ hF hw hS (kh_sub hl [] rfl)
      · have hF := kh_iff hF c_5
        refine lv_iload C.1 C.2.1 dX4_offer_50 (kh_at hl 0 rfl) ?_
        refine lv_goto (tgt := 56) C.1 C.2.1 dX4_offer_52 (by decide) ?_
        exact wL56 r_4 _ _ _ hF hw hS (kh_sub hl [] rfl)
    · have hF := kh_iff hF c_3
      exact wL17  _ _ _ hF hw hS (kh_sub hl [] rfl)

def f_X4_pass_L63 (ρ_63 : kh_S) : Option ((String × kh_S) ⊕ (Int32 × kh_S)) := some (.inr (ρ_63 0 8 0 0, ρ_63))
def f_X4_pass_B48 (x1_c48 : Int32) (σ_48 : kh_S) (y2_48 : Int32) : Option ((kh_S × Int32) ⊕ (kh_S)) := if x1_c48 ≤ y2_48 then some (.inr σ_48) else kh_bd (f_X4_passOne σ_48) (fun ρ_2 => some (.inl (ρ_2, y2_48 + (1 : Int32))))
def f_X4_pass_A48 (x1_c48 : Int32) : (kh_S) → Option ((String × kh_S) ⊕ (Int32 × kh_S)) := (fun u : kh_S => f_X4_pass_L63 u)
def f_X4_pass_L12 (ρ_12 : kh_S) : Option ((String × kh_S) ⊕ (Int32 × kh_S)) := some (.inl (kh_E1, ρ_12))
def f_X4_pass (ρ : kh_S) (x1 : Int32) : Option ((String × kh_S) ⊕ (Int32 × kh_S)) := if x1 < (1 : Int32) then f_X4_pass_L12 ρ else if x1 ≤ (600 : Int32) then if ((ρ 0 8 0 0) + x1) ≤ (5000 : Int32) then kh_bd (kh_lp (fun a : kh_S × Int32 => f_X4_pass_B48 x1 a.1 a.2) 9999 (ρ, (0 : Int32))) (f_X4_pass_A48 x1) else some (.inl (kh_E2, ρ)) else f_X4_pass_L12 ρ
set_option maxHeartbeats 4000000 in
set_option maxRecDepth 100000 in
theorem c_X4_pass (l : Launch) (hlt : l.stackTraces = false) (D : va_G) (ca : Nat → ClassId) (A : Nat → Prop) (ad : Nat → Nat → Nat) (ρ : kh_S) (x1 : Int32) {q0 : (String × kh_S) ⊕ (Int32 × kh_S)} (hF0 : f_X4_pass ρ x1 = some q0) : vx_Met l yX4_pass wsX4_pass ({ frames := 6, cells := 1, slots := 6, locals := 132 } : Room) (va_Pc [.ref (ad 0 0), .int x1] (kh_J D ca A ad ρ)) (kh_Yi D ca A ad (f_X4_pass ρ x1)) (kh_X D ca A ad (f_X4_pass ρ x1)) 1 6 A := by
  refine vx_ofW (cc := cX4_pass) (maxL := 3) (ret := (some .int)) (by decide) rfl ?_
  intro p e s m args below meth c s₁ B hml hout hv
  obtain ⟨rfl, ⟨hK, hw, hA⟩, hT⟩ := hv
  have C : kh_C p s m ([.ref (ad 0 0), .int x1]).toArray c cX4_pass 3 RX4 wsX4_pass D ca A := ⟨B.exec, B.bytes, hml, findClass_of_methodNamed B.named, atoms_spec (ws := wsX4_pass) B.pre, hK, hA⟩
  have hr := B.returns
  have hlocks := B.notSynchronized
  have hS : va_S A s.heap s.heap [] := va_S.rf
  have hl := kh_entry ([.ref (ad 0 0), .int x1]) (n := 3) (kh_ac rfl (kh_ac rfl kh_an)) (Nat.le_of_ble_eq_true rfl)
  rw [lg_entry_eq]
  generalize (lg_sl ([.ref (ad 0 0), .int x1]) ++ List.replicate (3 - (lg_sl ([.ref (ad 0 0), .int x1])).length) Slot.unset).toArray = ls at hl ⊢
  have hl : kh_lv ls 3 [(0, .ref (ad 0 0)), (1, .int x1)] := hl
  have k_231 := C.2.2.2.2.1 (.fieldLink RX4 231 "KeylessHall" "now" "I") (by decide +kernel)
  have hF := hF0
  unfold f_X4_pass at hF
  have wL63 : ∀ (ρ_63 : kh_S) (H : Heap) (locs : List Loc) (ls : Array Slot), f_X4_pass_L63 ρ_63 = some q0 → kh_w D ca A ad ρ_63 H → va_S A s.heap H locs → kh_lv ls 3 [(0, .ref (ad 0 0))] → W p l e (headSpec wsX4_pass ({ frames := 6, cells := 1, slots := 6, locals := 132 } : Room)).room s m ([.ref (ad 0 0), .int x1]).toArray below meth c H locs 0 0 (vx_MQ below (kh_Yi D ca A ad (f_X4_pass ρ x1)) (kh_X D ca A ad (f_X4_pass ρ x1)) ([.ref (ad 0 0), .int x1]).toArray s 1 6 A) (F0 m 63 ls []) := by
    intro ρ_63 H locs ls hF hw hS hl
    unfold f_X4_pass_L63 at hF
    refine lv_aload_n C.1 C.2.1 dX4_pass_63 rfl (kh_at hl 0 rfl) ?_
    refine kh_get C hw 0 8 rfl (kh_z0 ρ_63) kh_kd0 (Cn := RX4) (T := TX4) (N := 10) rfl (Nat.le_of_ble_eq_true rfl) k_231 (kf_0_8 ad ρ_63 0) dX4_pass_64 ?_
    refine vx_ret (W.widen (k := 1) (n := 6) (Nat.le_of_ble_eq_true rfl) (Nat.le_of_ble_eq_true rfl) ?_)
    exact W.iret (v := ρ_63 0 8 0 0) C.1 C.2.1 hr (fun t ht hW => ⟨⟨ρ_63 0 8 0 0, ρ_63, rfl, hF0.trans hF.symm, kh_bk ht hw⟩, hS.F ht⟩) hS.2.2 dX4_pass_67
  have wB48 : ∀ (x1_c48 : Int32) (b : kh_S), f_X4_pass_A48 x1_c48 b = some q0 → ∀ (n : Nat) (σ_48 : kh_S) (y2_48 : Int32) (H : Heap) (locs : List Loc) (ls : Array Slot), kh_lp (fun a : kh_S × Int32 => f_X4_pass_B48 x1_c48 a.1 a.2) n (σ_48, y2_48) = some b → kh_w D ca A ad σ_48 H → va_S A s.heap H locs → kh_lv ls 3 [(0, .ref (ad 0 0)), (1, .int x1_c48), (2, .int y2_48)] → W p l e (headSpec wsX4_pass ({ frames := 6, cells := 1, slots := 6, locals := 132 } : Room)).room s m ([.ref (ad 0 0), .int x1]).toArray below meth c H locs 0 0 (vx_MQ below (kh_Yi D ca A ad (f_X4_pass ρ x1)) (kh_X D ca A ad (f_X4_pass ρ x1)) ([.ref (ad 0 0), .int x1]).toArray s 1 6 A) (F0 m 48 ls []) := by
    intro x1_c48 b hA_48 n
    induction n with
    | zero => intro σ_48 y2_48 H locs ls h9; exact absurd h9 (fun z => nomatch z)
    | succ n ih_48 =>
      intro σ_48 y2_48 H locs ls hb_48 hw hS hl
      obtain ⟨q_48, hF, hb_48⟩ := kh_lp_ok hb_48
      have hF : f_X4_pass_B48 x1_c48 σ_48 y2_48 = some q_48 := hF
      unfold f_X4_pass_B48 at hF
      refine lv_iload_n C.1 C.2.1 dX4_pass_48 rfl (kh_at hl 2 rfl) ?_
      refine lv_iload_n C.1 C.2.1 dX4_pass_49 rfl (kh_at hl 1 rfl) ?_
      refine lv_icmp_ge (tgt := 63) C.1 C.2.1 dX4_pass_50 (by decide) (fun c_1 => ?_) (fun c_1 => ?_)
      · have hF := kh_ift hF c_1
        have e9 := Option.some.inj hF
        rcases hb_48 with ⟨a9, h8, h9⟩ | h8
        · exact absurd (e9.trans h8) (fun z => nomatch z)
        have h7 := Sum.inr.inj (e9.trans h8)
        have hF := (congrArg (f_X4_pass_A48 x1_c48) h7).trans hA_48
        exact wL63 σ_48 _ _ _ hF hw hS (kh_sub hl [0] rfl)
      · have hF := kh_iff hF c_1
        refine lv_aload_n C.1 C.2.1 dX4_pass_53 rfl (kh_at hl 0 rfl) ?_
        obtain ⟨ρ_2, h_2, hF⟩ := kh_bd_ok hF
        refine kh_callv (va_runV (As := []) (rest := []) ⟨C.1, C.2.1, C.2.2.1, C.2.2.2.1, C.2.2.2.2.1⟩ (c_X4_passOne l D ca A ad σ_48 h_2) (cwV 0 C.2.2.2.2.1 gX4_pass_X4_passOne rfl rfl rfl (by decide +kernel) ⟨Nat.le_of_ble_eq_true rfl, Nat.le_of_ble_eq_true rfl⟩) (kh_preV C hw hS 0 (kh_z0 σ_48) kh_kd0 rfl) rfl rfl hl.1.1 rfl (lv_room (kh_sum kh_an (Nat.le_of_ble_eq_true rfl))) dX4_pass_54 ⟨Nat.le_of_ble_eq_true rfl, Nat.le_of_ble_eq_true rfl⟩) hS h_2 (fun H locs hw hS => ?_)
        refine kh_iinc (v := y2_48 + (1 : Int32)) (lv' := [(2, .int (y2_48 + (1 : Int32))), (0, .ref (ad 0 0)), (1, .int x1_c48)]) C.1 C.2.1 dX4_pass_57 hl (k := 2) rfl (by rfl) (by decide) rfl (fun ls hl => ?_)
        refine lv_goto (tgt := 48) C.1 C.2.1 dX4_pass_60 (by decide) ?_
        have e9 := Option.some.inj hF
        rcases hb_48 with ⟨a9, h8, h9⟩ | h8
        · have h7 := Sum.inl.inj (e9.trans h8)
          subst h7
          exact ih_48 _ _ _ _ _ h9 hw hS (kh_sub hl [1, 2, 0] rfl)
        · exact absurd (e9.trans h8) (fun z => nomatch z)
  have wL12 : ∀ (ρ_12 : kh_S) (H : Heap) (locs : List Loc) (ls : Array Slot), f_X4_pass_L12 ρ_12 = some q0 → kh_w D ca A ad ρ_12 H → va_S A s.heap H locs → kh_lv ls 3 [] → W p l e (headSpec wsX4_pass ({ frames := 6, cells := 1, slots := 6, locals := 132 } : Room)).room s m ([.ref (ad 0 0), .int x1]).toArray below meth c H locs 0 0 (vx_MQ below (kh_Yi D ca A ad (f_X4_pass ρ x1)) (kh_X D ca A ad (f_X4_pass ρ x1)) ([.ref (ad 0 0), .int x1]).toArray s 1 6 A) (F0 m 12 ls []) := by
    intro ρ_12 H locs ls hF hw hS hl
    unfold f_X4_pass_L12 at hF
    exact kh_throwW C hlt hT hw hS hl.1.1 hout hlocks (ik := 42) (is := 266) (ic := 46) (text := "minutes are 1 to 600") hT.2.2.2.1 (by decide +kernel) (by decide +kernel) kh_hg1 kh_hb1 (C.2.2.2.2.1 (.classLink RX4 42 kh_E1) (by decide +kernel)) (C.2.2.2.2.1 (.initialized kh_E1) (by decide +kernel)) dX4_pass_12 dX4_pass_15 dX4_pass_16 dX4_pass_19 dX4_pass_22 (hF0.trans hF.symm) ⟨Nat.le_of_ble_eq_true rfl, Nat.le_of_ble_eq_true rfl, Nat.le_of_ble_eq_true rfl, Nat.le_of_ble_eq_true rfl⟩ ⟨Nat.le_of_ble_eq_true rfl, Nat.le_of_ble_eq_true rfl⟩
  refine lv_iload_n C.1 C.2.1 dX4_pass_0 rfl (kh_at hl 1 rfl) ?_
  refine lv_iconst (v := (1 : Int32)) C.1 C.2.1 dX4_pass_1 (by decide) ?_
  refine lv_icmp_lt (tgt := 12) C.1 C.2.1 dX4_pass_2 (by decide) (fun c_3 => ?_) (fun c_3 => ?_)
  · have hF := kh_ift hF c_3
    exact wL12 ρ _ _ _ hF hw hS (kh_sub hl [] rfl)
  · have hF := kh_iff hF c_3
    refine lv_iload_n C.1 C.2.1 dX4_pass_5 rfl (kh_at hl 1 rfl) ?_
    refine lv_sipush (v := (600 : Int32)) C.1 C.2.1 dX4_pass_6 (by decide) ?_
    refine lv_icmp_le (tgt := 23) C.1 C.2.1 dX4_pass_9 (by decide) (fun c_4 => ?_) (fun c_4 => ?_)
    · have hF := kh_ift hF c_4
      refine lv_aload_n C.1 C.2.1 dX4_pass_23 rfl (kh_at hl 0 rfl) ?_
      refine kh_get C hw 0 8 rfl (kh_z0 ρ) kh_kd0 (Cn := RX4) (T := TX4) (N := 10) rfl (Nat.le_of_ble_eq_true rfl) k_231 (kf_0_8 ad ρ 0) dX4_pass_24 ?_
      refine lv_iload_n C.1 C.2.1 dX4_pass_27 rfl (kh_at hl 1 rfl) ?_
      refine lv_iadd C.1 C.2.1 dX4_pass_28 ?_
      refine lv_sipush (v := (5000 : Int32)) C.1 C.2.1 dX4_pass_29 (by decide) ?_
      refine lv_icmp_le (tgt := 46) C.1 C.2.1 dX4_pass_32 (by decide) (fun c_5 => ?_) (fun c_5 => ?_)
      · have hF := kh_ift hF c_5
        refine lv_iconst (v := (0 : Int32)) C.1 C.2.1 dX4_pass_46 (by decide) ?_
        refine kh_istore_n (lv' := [(2, .int (0 : Int32)), (0, .ref (ad 0 0)), (1, .int x1)]) C.1 C.2.1 dX4_pass_47 rfl hl (by decide) rfl (fun ls hl => ?_)
        obtain ⟨b_48, hb_48, hF⟩ := kh_bd_ok hF
        exact wB48 x1 b_48 hF _ ρ (0 : Int32) _ _ _ hb_48 hw hS (kh_sub hl [1, 2, 0] rfl)
      · have hF := kh_iff hF c_5
        exact kh_throwW C hlt hT hw hS hl.1.1 hout hlocks (ik := 53) (is := 268) (ic := 57) (text := "minutes are counted up to 5000") hT.2.2.2.2.1 (by decide +kernel) (by decide +kernel) kh_hg2 kh_hb2 (C.2.2.2.2.1 (.classLink RX4 53 kh_E2) (by decide +kernel)) (C.2.2.2.2.1 (.initialized kh_E2) (by decide +kernel)) dX4_pass_35 dX4_pass_38 dX4_pass_39 dX4_pass_42 dX4_pass_45 (hF0.trans hF.symm) ⟨Nat.le_of_ble_eq_true rfl, Nat.le_of_ble_eq_true rfl, Nat.le_of_ble_eq_true rfl, Nat.le_of_ble_eq_true rfl⟩ ⟨Nat.le_of_ble_eq_true rfl, Nat.le_of_ble_eq_true rfl⟩
    · have hF := kh_iff hF c_4
      exact wL12 ρ _ _ _ hF hw hS (kh_sub hl [] rfl)

def f_X4_state_L73 (ρ : kh_S) (t0_73 : Int32) : Option (String ⊕ Int32) := some (.inr t0_73)
def f_X4_state (ρ : kh_S) (x1 : Int32) (x2 : Int32) : Option (String ⊕ Int32) := kh_bx (f_X4_roomNumbered ρ x1) (fun e_1 => some (.inl e_1)) (fun r_1 => if x2 = (0 : Int32) then kh_gd (kh_in r_1 (kh_n ρ 6)) (some (.inr (ρ 6 8 r_1.toNatClampNeg 0))) else (if x2 = (1 : Int32) then kh_gd (kh_in r_1 (kh_n ρ 6)) (some (.inr (ρ 6 9 r_1.toNatClampNeg 0))) else (if x2 = (2 : Int32) then kh_gd (kh_in r_1 (kh_n ρ 6)) (some (.inr (ρ 6 10 r_1.toNatClampNeg 0))) else (if x2 = (3 : Int32) then kh_gd (kh_in r_1 (kh_n ρ 6)) (if (ρ 6 12 r_1.toNatClampNeg 0) < 0 then f_X4_state_L73 ρ (-1 : Int32) else kh_gd (kh_in (ρ 6 12 r_1.toNatClampNeg 0) (kh_n ρ 11)) (f_X4_state_L73 ρ (ρ 11 0 ((ρ 6 12 r_1.toNatClampNeg 0).toNatClampNeg) 0))) else (if x2 = (4 : Int32) then kh_gd (kh_in r_1 (kh_n ρ 6)) (some (.inr (ρ 6 7 r_1.toNatClampNeg 0))) else (some (.inl kh_E1)))))))
set_option maxHeartbeats 4000000 in
set_option maxRecDepth 100000 in
theorem c_X4_state (l : Launch) (hlt : l.stackTraces = false) (D : va_G) (ca : Nat → ClassId) (A : Nat → Prop) (ad : Nat → Nat → Nat) (ρ : kh_S) (x1 : Int32) (x2 : Int32) {q0 : String ⊕ Int32} (hF0 : f_X4_state ρ x1 x2 = some q0) : vx_Met l yX4_state wsX4_state ({ frames := 7, cells := 2, slots := 12, locals := 111 } : Room) (va_Pc [.ref (ad 0 0), .int x1, .int x2] (kh_J D ca A ad ρ)) (kh_Yi D ca A ad (kh_pt (f_X4_state ρ x1 x2) ρ)) (kh_X D ca A ad (kh_pt (f_X4_state ρ x1 x2) ρ)) 2 12 A := by
  refine vx_ofW (cc := cX4_state) (maxL := 4) (ret := (some .int)) (by decide) rfl ?_
  intro p e s m args below meth c s₁ B hml hout hv
  obtain ⟨rfl, ⟨hK, hw, hA⟩, hT⟩ := hv
  have C : kh_C p s m ([.ref (ad 0 0), .int x1, .int x2]).toArray c cX4_state 4 RX4 wsX4_state D ca A := ⟨B.exec, B.bytes, hml, findClass_of_methodNamed B.named, atoms_spec (ws := wsX4_state) B.pre, hK, hA⟩
  have hr := B.returns
  have hlocks := B.notSynchronized
  have hS : va_S A s.heap s.heap [] := va_S.rf
  have hl := kh_entry ([.ref (ad 0 0), .int x1, .int x2]) (n := 4) (kh_ac rfl (kh_ac rfl (kh_ac rfl kh_an))) (Nat.le_of_ble_eq_true rfl)
  rw [lg_entry_eq]
  generalize (lg_sl ([.ref (ad 0 0), .int x1, .int x2]) ++ List.replicate (4 - (lg_sl ([.ref (ad 0 0), .int x1, .int x2])).length) Slot.unset).toArray = ls at hl ⊢
  have hl : kh_lv ls 4 [(0, .ref (ad 0 0)), (1, .int x1), (2, .int x2)] := hl
  have k_77 := C.2.2.2.2.1 (.fieldLink RX4 77 "KeylessHall$Room" "how" "I") (by decide +kernel)
  have k_228 := C.2.2.2.2.1 (.fieldLink RX4 228 "KeylessHall$Room" "toReset" "I") (by decide +kernel)
  have k_212 := C.2.2.2.2.1 (.fieldLink RX4 212 "KeylessHall$Room" "forgotten" "I") (by decide +kernel)
  have k_273 := C.2.2.2.2.1 (.fieldLink RX4 273 "KeylessHall$Room" "players" "LKeylessHall$Group;") (by decide +kernel)
  have k_277 := C.2.2.2.2.1 (.fieldLink RX4 277 "KeylessHall$Group" "number" "I") (by decide +kernel)
  have k_280 := C.2.2.2.2.1 (.fieldLink RX4 280 "KeylessHall$Room" "gap" "I") (by decide +kernel)
  have hF := hF0
  unfold f_X4_state at hF
  have wL73 : ∀ (t0_73 : Int32) (H : Heap) (locs : List Loc) (ls : Array Slot), f_X4_state_L73 ρ t0_73 = some q0 → kh_w D ca A ad ρ H → va_S A s.heap H locs → kh_lv ls 4 [] → W p l e (headSpec wsX4_state ({ frames := 7, cells := 2, slots := 12, locals := 111 } : Room)).room s m ([.ref (ad 0 0), .int x1, .int x2]).toArray below meth c H locs 1 6 (vx_MQ below (kh_Yi D ca A ad (kh_pt (f_X4_state ρ x1 x2) ρ)) (kh_X D ca A ad (kh_pt (f_X4_state ρ x1 x2) ρ)) ([.ref (ad 0 0), .int x1, .int x2]).toArray s 2 12 A) (F0 m 73 ls [.int t0_73]) := by
    intro t0_73 H locs ls hF hw hS hl
    unfold f_X4_state_L73 at hF
    refine vx_ret (W.widen (k := 2) (n := 12) (Nat.le_of_ble_eq_true rfl) (Nat.le_of_ble_eq_true rfl) ?_)
    exact W.iret (v := t0_73) C.1 C.2.1 hr (fun t ht hW => ⟨⟨t0_73, ρ, rfl, kh_pr (hF0.trans hF.symm), kh_bk ht hw⟩, hS.F ht⟩) hS.2.2 dX4_state_73
  refine lv_aload_n C.1 C.2.1 dX4_state_0 rfl (kh_at hl 0 rfl) ?_
  refine lv_iload_n C.1 C.2.1 dX4_state_1 rfl (kh_at hl 1 rfl) ?_
  rcases kh_bx_ok hF with ⟨e_1, h_1, hF⟩ | ⟨r_1, h_1, hF⟩
  · refine kh_xcallX (vx_runV (As := [.int x1]) (rest := []) ⟨C.1, C.2.1, C.2.2.1, C.2.2.2.1, C.2.2.2.2.1⟩ (c_X4_roomNumbered l hlt D ca A ad ρ x1 h_1) (cwV 1 C.2.2.2.2.1 gX4_state_X4_roomNumbered rfl rfl rfl (by decide +kernel) ⟨Nat.le_of_ble_eq_true rfl, Nat.le_of_ble_eq_true rfl⟩) (kh_preVJ C hT hw hS 0 (kh_z0 ρ) kh_kd0 rfl) rfl rfl hl.1.1 rfl (lv_room (kh_sum kh_an (Nat.le_of_ble_eq_true rfl))) dX4_state_2 ⟨Nat.le_of_ble_eq_true rfl, Nat.le_of_ble_eq_true rfl⟩) hS (kh_pl h_1) (kh_notYq (kh_pl h_1)) (fun H locs ce q9 hw hS h7 h8 h9 => ?_)
    exact kh_out hout hlocks h7 h8 h9 hw hS (kh_pl (hF0.trans hF.symm)) (Nat.le_of_ble_eq_true rfl) (Nat.le_of_ble_eq_true rfl)
  refine kh_xcallq (vx_runV (As := [.int x1]) (rest := []) ⟨C.1, C.2.1, C.2.2.1, C.2.2.2.1, C.2.2.2.2.1⟩ (c_X4_roomNumbered l hlt D ca A ad ρ x1 h_1) (cwV 1 C.2.2.2.2.1 gX4_state_X4_roomNumbered rfl rfl rfl (by decide +kernel) ⟨Nat.le_of_ble_eq_true rfl, Nat.le_of_ble_eq_true rfl⟩) (kh_preVJ C hT hw hS 0 (kh_z0 ρ) kh_kd0 rfl) rfl rfl hl.1.1 rfl (lv_room (kh_sum kh_an (Nat.le_of_ble_eq_true rfl))) dX4_state_2 ⟨Nat.le_of_ble_eq_true rfl, Nat.le_of_ble_eq_true rfl⟩) hS (kh_pr h_1) (fun H locs hw hS => ?_)
  refine kh_astore_n (lv' := [(3, va_rf (kh_rc ad 6 r_1)), (0, .ref (ad 0 0)), (1, .int x1), (2, .int x2)]) C.1 C.2.1 dX4_state_5 rfl hl (by decide) rfl (fun ls hl => ?_)
  refine lv_iload_n C.1 C.2.1 dX4_state_6 rfl (kh_at hl 3 rfl) ?_
  by_cases c_2 : x2 = (0 : Int32)
  · have hF := kh_ift hF c_2
    refine kh_swIn (tgt := 40) (off := 33) C.1 C.2.1 dX4_state_7 c_2 (by decide) (by decide) (by decide +kernel) (by decide) ?_
    refine kh_aload_n C.1 C.2.1 dX4_state_40 rfl (kh_at hl 0 rfl) ?_
    obtain ⟨g_3, hF⟩ := kh_gd_ok hF
    have v_4 := kh_in_lt g_3
    have r_5 := kh_rf (ad := ad) (k := 6) g_3
    refine kh_get C hw 6 8 r_5 v_4 kh_kd6 (Cn := RX2) (T := TX2) (N := 13) rfl (Nat.le_of_ble_eq_true rfl) k_77 (kf_6_8 ad ρ r_1.toNatClampNeg) dX4_state_41 ?_
    refine vx_ret (W.widen (k := 2) (n := 12) (Nat.le_of_ble_eq_true rfl) (Nat.le_of_ble_eq_true rfl) ?_)
    exact W.iret (v := ρ 6 8 r_1.toNatClampNeg 0) C.1 C.2.1 hr (fun t ht hW => ⟨⟨ρ 6 8 r_1.toNatClampNeg 0, ρ, rfl, kh_pr (hF0.trans hF.symm), kh_bk ht hw⟩, hS.F ht⟩) hS.2.2 dX4_state_44
  have hF := kh_iff hF c_2
  by_cases c_6 : x2 = (1 : Int32)
  · have hF := kh_ift hF c_6
    refine kh_swIn (tgt := 45) (off := 38) C.1 C.2.1 dX4_state_7 c_6 (by decide) (by decide) (by decide +kernel) (by decide) ?_
    refine kh_aload_n C.1 C.2.1 dX4_state_45 rfl (kh_at hl 0 rfl) ?_
    obtain ⟨g_7, hF⟩ := kh_gd_ok hF
    have v_8 := kh_in_lt g_7
    have r_9 := kh_rf (ad := ad) (k := 6) g_7
    refine kh_get C hw 6 9 r_9 v_8 kh_kd6 (Cn := RX2) (T := TX2) (N := 13) rfl (Nat.le_of_ble_eq_true rfl) k_228 (kf_6_9 ad ρ r_1.toNatClampNeg) dX4_state_46 ?_
    refine vx_ret (W.widen (k := 2) (n := 12) (Nat.le_of_ble_eq_true rfl) (Nat.le_of_ble_eq_true rfl) ?_)
    exact W.iret (v := ρ 6 9 r_1.toNatClampNeg 0) C.1 C.2.1 hr (fun t ht hW => ⟨⟨ρ 6 9 r_1.toNatClampNeg 0, ρ, rfl, kh_pr (hF0.trans hF.symm), kh_bk ht hw⟩, hS.F ht⟩) hS.2.2 dX4_state_49
  have hF := kh_iff hF c_6
  by_cases c_10 : x2 = (2 : Int32)
  · have hF := kh_ift hF c_10
    refine kh_swIn (tgt := 50) (off := 43) C.1 C.2.1 dX4_state_7 c_10 (by decide) (by decide) (by decide +kernel) (by decide) ?_
    refine kh_aload_n C.1 C.2.1 dX4_state_50 rfl (kh_at hl 0 rfl) ?_
    obtain ⟨g_11, hF⟩ := kh_gd_ok hF
    have v_12 := kh_in_lt g_11
    have r_13 := kh_rf (ad := ad) (k := 6) g_11
    refine kh_get C hw 6 10 r_13 v_12 kh_kd6 (Cn := RX2) (T := TX2) (N := 13) rfl (Nat.le_of_ble_eq_true rfl) k_212 (kf_6_10 ad ρ r_1.toNatClampNeg) dX4_state_51 ?_
    refine vx_ret (W.widen (k := 2) (n := 12) (Nat.le_of_ble_eq_true rfl) (Nat.le_of_ble_eq_true rfl) ?_)
    exact W.iret (v := ρ 6 10 r_1.toNatClampNeg 0) C.1 C.2.1 hr (fun t ht hW => ⟨⟨ρ 6 10 r_1.toNatClampNeg 0, ρ, rfl, kh_pr (hF0.trans hF.symm), kh_bk ht hw⟩, hS.F ht⟩) hS.2.2 dX4_state_54
  have hF := kh_iff hF c_10
  by_cases c_14 : x2 = (3 : Int32)
  · have hF := kh_ift hF c_14
    refine kh_swIn (tgt := 55) (off := 48) C.1 C.2.1 dX4_state_7 c_14 (by decide) (by decide) (by decide +kernel) (by decide) ?_
    refine kh_aload_n C.1 C.2.1 dX4_state_55 rfl (kh_at hl 0 rfl) ?_
    obtain ⟨g_15, hF⟩ := kh_gd_ok hF
    have v_16 := kh_in_lt g_15
    have r_17 := kh_rf (ad := ad) (k := 6) g_15
    refine kh_get C hw 6 12 r_17 v_16 kh_kd6 (Cn := RX2) (T := TX2) (N := 13) rfl (Nat.le_of_ble_eq_true rfl) k_273 (kf_6_12 ad ρ r_1.toNatClampNeg) dX4_state_56 ?_
    refine kh_ifnonnull (tgt := 66) C.1 C.2.1 dX4_state_59 (by decide) (fun c_18 => ?_) (fun c_18 => ?_)
    · have hF := kh_iff hF c_18
      refine kh_aload_n C.1 C.2.1 dX4_state_66 rfl (kh_at hl 0 rfl) ?_
      refine kh_get C hw 6 12 r_17 v_16 kh_kd6 (Cn := RX2) (T := TX2) (N := 13) rfl (Nat.le_of_ble_eq_true rfl) k_273 (kf_6_12 ad ρ r_1.toNatClampNeg) dX4_state_67 ?_
      obtain ⟨g_19, hF⟩ := kh_gd_ok hF
      have v_20 := kh_in_lt g_19
      have r_21 := kh_rf (ad := ad) (k := 11) g_19
      refine kh_get C hw 11 0 r_21 v_20 kh_kd11 (Cn := RX1) (T := TX1) (N := 9) rfl (Nat.le_of_ble_eq_true rfl) k_277 (kf_11_0 ad ρ ((ρ 6 12 r_1.toNatClampNeg 0).toNatClampNeg)) dX4_state_70 ?_
      exact wL73 (ρ 11 0 ((ρ 6 12 r_1.toNatClampNeg 0).toNatClampNeg) 0) _ _ _ hF hw hS (kh_sub hl [] rfl)
    · have hF := kh_ift hF c_18
      refine lv_iconst (v := (-1 : Int32)) C.1 C.2.1 dX4_state_62 (by decide) ?_
      refine lv_goto (tgt := 73) C.1 C.2.1 dX4_state_63 (by decide) ?_
      exact wL73 (-1 : Int32) _ _ _ hF hw hS (kh_sub hl [] rfl)
  have hF := kh_iff hF c_14
  by_cases c_22 : x2 = (4 : Int32)
  · have hF := kh_ift hF c_22
    refine kh_swIn (tgt := 74) (off := 67) C.1 C.2.1 dX4_state_7 c_22 (by decide) (by decide) (by decide +kernel) (by decide) ?_
    refine kh_aload_n C.1 C.2.1 dX4_state_74 rfl (kh_at hl 0 rfl) ?_
    obtain ⟨g_23, hF⟩ := kh_gd_ok hF
    have v_24 := kh_in_lt g_23
    have r_25 := kh_rf (ad := ad) (k := 6) g_23
    refine kh_get C hw 6 7 r_25 v_24 kh_kd6 (Cn := RX2) (T := TX2) (N := 13) rfl (Nat.le_of_ble_eq_true rfl) k_280 (kf_6_7 ad ρ r_1.toNatClampNeg) dX4_state_75 ?_
    refine vx_ret (W.widen (k := 2) (n := 12) (Nat.le_of_ble_eq_true rfl) (Nat.le_of_ble_eq_true rfl) ?_)
    exact W.iret (v := ρ 6 7 r_1.toNatClampNeg 0) C.1 C.2.1 hr (fun t ht hW => ⟨⟨ρ 6 7 r_1.toNatClampNeg 0, ρ, rfl, kh_pr (hF0.trans hF.symm), kh_bk ht hw⟩, hS.F ht⟩) hS.2.2 dX4_state_78
  have hF := kh_iff hF c_22
  refine lv_tableOut (tgt := 79) C.1 C.2.1 dX4_state_7 (kh_swO (fun k a9 b9 => by
    rcases (show k = 0 ∨ k = 1 ∨ k = 2 ∨ k = 3 ∨ k = 4 by omega) with rfl | rfl | rfl | rfl | rfl
    · exact kh_neT c_2 (by decide)
    · exact kh_neT c_6 (by decide)
    · exact kh_neT c_10 (by decide)
    · exact kh_neT c_14 (by decide)
    · exact kh_neT c_22 (by decide))) (by decide) ?_
  exact kh_throwW C hlt hT hw hS hl.1.1 hout hlocks (ik := 42) (is := 283) (ic := 46) (text := "what is 0 to 4") hT.2.2.2.1 (by decide +kernel) (by decide +kernel) kh_hg1 kh_hb1 (C.2.2.2.2.1 (.classLink RX4 42 kh_E1) (by decide +kernel)) (C.2.2.2.2.1 (.initialized kh_E1) (by decide +kernel)) dX4_state_79 dX4_state_82 dX4_state_83 dX4_state_86 dX4_state_89 (kh_pl (hF0.trans hF.symm)) ⟨Nat.le_of_ble_eq_true rfl, Nat.le_of_ble_eq_true rfl, Nat.le_of_ble_eq_true rfl, Nat.le_of_ble_eq_true rfl⟩ ⟨Nat.le_of_ble_eq_true rfl, Nat.le_of_ble_eq_true rfl⟩

def f_X4_group_L86 (ρ : kh_S) (t0_86 : Int32) : Option (String ⊕ Int32) := some (.inr t0_86)
def f_X4_group (ρ : kh_S) (x1 : Int32) (x2 : Int32) : Option (String ⊕ Int32) := kh_bx (f_X4_groupNumbered ρ x1) (fun e_1 => some (.inl e_1)) (fun r_1 => if x2 = (0 : Int32) then kh_gd (kh_in r_1 (kh_n ρ 11)) (some (.inr (ρ 11 6 r_1.toNatClampNeg 0))) else (if x2 = (1 : Int32) then kh_gd (kh_in r_1 (kh_n ρ 11)) (kh_gd (kh_in (ρ 11 1 r_1.toNatClampNeg 0) (kh_n ρ 6)) (some (.inr (ρ 6 0 ((ρ 11 1 r_1.toNatClampNeg 0).toNatClampNeg) 0)))) else (if x2 = (2 : Int32) then kh_gd (kh_in r_1 (kh_n ρ 11)) (some (.inr (ρ 11 8 r_1.toNatClampNeg 0))) else (if x2 = (3 : Int32) then kh_gd (kh_in r_1 (kh_n ρ 11)) (some (.inr (ρ 11 7 r_1.toNatClampNeg 0))) else (if x2 = (4 : Int32) then kh_gd (kh_in r_1 (kh_n ρ 11)) (if (ρ 11 6 r_1.toNatClampNeg 0) = 0 then kh_bd (f_X1_minutesLeft ρ r_1.toNatClampNeg (ρ 0 8 0 0)) (fun r_26 => f_X4_group_L86 ρ r_26) else f_X4_group_L86 ρ (0 : Int32)) else (if x2 = (5 : Int32) then kh_gd (kh_in r_1 (kh_n ρ 11)) (some (.inr (ρ 11 4 r_1.toNatClampNeg 0))) else (some (.inl kh_E1))))))))
set_option maxHeartbeats 4000000 in
set_option maxRecDepth 100000 in
theorem c_X4_group (l : Launch) (hlt : l.stackTraces = false) (D : va_G) (ca : Nat → ClassId) (A : Nat → Prop) (ad : Nat → Nat → Nat) (ρ : kh_S) (x1 : Int32) (x2 : Int32) {q0 : String ⊕ Int32} (hF0 : f_X4_group ρ x1 x2 = some q0) : vx_Met l yX4_group wsX4_group ({ frames := 7, cells := 2, slots := 12, locals := 111 } : Room) (va_Pc [.ref (ad 0 0), .int x1, .int x2] (kh_J D ca A ad ρ)) (kh_Yi D ca A ad (kh_pt (f_X4_group ρ x1 x2) ρ)) (kh_X D ca A ad (kh_pt (f_X4_group ρ x1 x2) ρ)) 2 12 A := by
  refine vx_ofW (cc := cX4_group) (maxL := 4) (ret := (some .int)) (by decide) rfl ?_
  intro p e s m args below meth c s₁ B hml hout hv
  obtain ⟨rfl, ⟨hK, hw, hA⟩, hT⟩ := hv
  have C : kh_C p s m ([.ref (ad 0 0), .int x1, .int x2]).toArray c cX4_group 4 RX4 wsX4_group D ca A := ⟨B.exec, B.bytes, hml, findClass_of_methodNamed B.named, atoms_spec (ws := wsX4_group) B.pre, hK, hA⟩
  have hr := B.returns
  have hlocks := B.notSynchronized
  have hS : va_S A s.heap s.heap [] := va_S.rf
  have hl := kh_entry ([.ref (ad 0 0), .int x1, .int x2]) (n := 4) (kh_ac rfl (kh_ac rfl (kh_ac rfl kh_an))) (Nat.le_of_ble_eq_true rfl)
  rw [lg_entry_eq]
  generalize (lg_sl ([.ref (ad 0 0), .int x1, .int x2]) ++ List.replicate (4 - (lg_sl ([.ref (ad 0 0), .int x1, .int x2])).length) Slot.unset).toArray = ls at hl ⊢
  have hl : kh_lv ls 4 [(0, .ref (ad 0 0)), (1, .int x1), (2, .int x2)] := hl
  have k_161 := C.2.2.2.2.1 (.fieldLink RX4 161 "KeylessHall$Group" "how" "I") (by decide +kernel)
  have k_155 := C.2.2.2.2.1 (.fieldLink RX4 155 "KeylessHall$Group" "place" "LKeylessHall$Room;") (by decide +kernel)
  have k_285 := C.2.2.2.2.1 (.fieldLink RX4 285 "KeylessHall$Room" "number" "I") (by decide +kernel)
  have k_166 := C.2.2.2.2.1 (.fieldLink RX4 166 "KeylessHall$Group" "held" "I") (by decide +kernel)
  have k_174 := C.2.2.2.2.1 (.fieldLink RX4 174 "KeylessHall$Group" "solved" "I") (by decide +kernel)
  have k_231 := C.2.2.2.2.1 (.fieldLink RX4 231 "KeylessHall" "now" "I") (by decide +kernel)
  have k_289 := C.2.2.2.2.1 (.fieldLink RX4 289 "KeylessHall$Group" "hintCount" "I") (by decide +kernel)
  have hF := hF0
  unfold f_X4_group at hF
  have wL86 : ∀ (t0_86 : Int32) (H : Heap) (locs : List Loc) (ls : Array Slot), f_X4_group_L86 ρ t0_86 = some q0 → kh_w D ca A ad ρ H → va_S A s.heap H locs → kh_lv ls 4 [] → W p l e (headSpec wsX4_group ({ frames := 7, cells := 2, slots := 12, locals := 111 } : Room)).room s m ([.ref (ad 0 0), .int x1, .int x2]).toArray below meth c H locs 1 6 (vx_MQ below (kh_Yi D ca A ad (kh_pt (f_X4_group ρ x1 x2) ρ)) (kh_X D ca A ad (kh_pt (f_X4_group ρ x1 x2) ρ)) ([.ref (ad 0 0), .int x1, .int x2]).toArray s 2 12 A) (F0 m 86 ls [.int t0_86]) := by
    intro t0_86 H locs ls hF hw hS hl
    unfold f_X4_group_L86 at hF
    refine vx_ret (W.widen (k := 2) (n := 12) (Nat.le_of_ble_eq_true rfl) (Nat.le_of_ble_eq_true rfl) ?_)
    exact W.iret (v := t0_86) C.1 C.2.1 hr (fun t ht hW => ⟨⟨t0_86, ρ, rfl, kh_pr (hF0.trans hF.symm), kh_bk ht hw⟩, hS.F ht⟩) hS.2.2 dX4_group_86
  refine lv_aload_n C.1 C.2.1 dX4_group_0 rfl (kh_at hl 0 rfl) ?_
  refine lv_iload_n C.1 C.2.1 dX4_group_1 rfl (kh_at hl 1 rfl) ?_
  rcases kh_bx_ok hF with ⟨e_1, h_1, hF⟩ | ⟨r_1, h_1, hF⟩
  · refine kh_xcallX (vx_runV (As := [.int x1]) (rest := []) ⟨C.1, C.2.1, C.2.2.1, C.2.2.2.1, C.2.2.2.2.1⟩ (c_X4_groupNumbered l hlt D ca A ad ρ x1 h_1) (cwV 1 C.2.2.2.2.1 gX4_group_X4_groupNumbered rfl rfl rfl (by decide +kernel) ⟨Nat.le_of_ble_eq_true rfl, Nat.le_of_ble_eq_true rfl⟩) (kh_preVJ C hT hw hS 0 (kh_z0 ρ) kh_kd0 rfl) rfl rfl hl.1.1 rfl (lv_room (kh_sum kh_an (Nat.le_of_ble_eq_true rfl))) dX4_group_2 ⟨Nat.le_of_ble_eq_true rfl, Nat.le_of_ble_eq_true rfl⟩) hS (kh_pl h_1) (kh_notYq (kh_pl h_1)) (fun H locs ce q9 hw hS h7 h8 h9 => ?_)
    exact kh_out hout hlocks h7 h8 h9 hw hS (kh_pl (hF0.trans hF.symm)) (Nat.le_of_ble_eq_true rfl) (Nat.le_of_ble_eq_true rfl)
  refine kh_xcallq (vx_runV (As := [.int x1]) (rest := []) ⟨C.1, C.2.1, C.2.2.1, C.2.2.2.1, C.2.2.2.2.1⟩ (c_X4_groupNumbered l hlt D ca A ad ρ x1 h_1) (cwV 1 C.2.2.2.2.1 gX4_group_X4_groupNumbered rfl rfl rfl (by decide +kernel) ⟨Nat.le_of_ble_eq_true rfl, Nat.le_of_ble_eq_true rfl⟩) (kh_preVJ C hT hw hS 0 (kh_z0 ρ) kh_kd0 rfl) rfl rfl hl.1.1 rfl (lv_room (kh_sum kh_an (Nat.le_of_ble_eq_true rfl))) dX4_group_2 ⟨Nat.le_of_ble_eq_true rfl, Nat.le_of_ble_eq_true rfl⟩) hS (kh_pr h_1) (fun H locs hw hS => ?_)
  refine kh_astore_n (lv' := [(3, va_rf (kh_rc ad 11 r_1)), (0, .ref (ad 0 0)), (1, .int x1), (2, .int x2)]) C.1 C.2.1 dX4_group_5 rfl hl (by decide) rfl (fun ls hl => ?_)
  refine lv_iload_n C.1 C.2.1 dX4_group_6 rfl (kh_at hl 3 rfl) ?_
  by_cases c_2 : x2 = (0 : Int32)
  · have hF := kh_ift hF c_2
    refine kh_swIn (tgt := 44) (off := 37) C.1 C.2.1 dX4_group_7 c_2 (by decide) (by decide) (by decide +kernel) (by decide) ?_
    refine kh_aload_n C.1 C.2.1 dX4_group_44 rfl (kh_at hl 0 rfl) ?_
    obtain ⟨g_3, hF⟩ := kh_gd_ok hF
    have v_4 := kh_in_lt g_3
    have r_5 := kh_rf (ad := ad) (k := 11) g_3
    refine kh_get C hw 11 6 r_5 v_4 kh_kd11 (Cn := RX1) (T := TX1) (N := 9) rfl (Nat.le_of_ble_eq_true rfl) k_161 (kf_11_6 ad ρ r_1.toNatClampNeg) dX4_group_45 ?_
    refine vx_ret (W.widen (k := 2) (n := 12) (Nat.le_of_ble_eq_true rfl) (Nat.le_of_ble_eq_true rfl) ?_)
    exact W.iret (v := ρ 11 6 r_1.toNatClampNeg 0) C.1 C.2.1 hr (fun t ht hW => ⟨⟨ρ 11 6 r_1.toNatClampNeg 0, ρ, rfl, kh_pr (hF0.trans hF.symm), kh_bk ht hw⟩, hS.F ht⟩) hS.2.2 dX4_group_48
  have hF := kh_iff hF c_2
  by_cases c_6 : x2 = (1 : Int32)
  · have hF := kh_ift hF c_6
    refine kh_swIn (tgt := 49) (off := 42) C.1 C.2.1 dX4_group_7 c_6 (by decide) (by decide) (by decide +kernel) (by decide) ?_
    refine kh_aload_n C.1 C.2.1 dX4_group_49 rfl (kh_at hl 0 rfl) ?_
    obtain ⟨g_7, hF⟩ := kh_gd_ok hF
    have v_8 := kh_in_lt g_7
    have r_9 := kh_rf (ad := ad) (k := 11) g_7
    refine kh_get C hw 11 1 r_9 v_8 kh_kd11 (Cn := RX1) (T := TX1) (N := 9) rfl (Nat.le_of_ble_eq_true rfl) k_155 (kf_11_1 ad ρ r_1.toNatClampNeg) dX4_group_50 ?_
    obtain ⟨g_10, hF⟩ := kh_gd_ok hF
    have v_11 := kh_in_lt g_10
    have r_12 := kh_rf (ad := ad) (k := 6) g_10
    refine kh_get C hw 6 0 r_12 v_11 kh_kd6 (Cn := RX2) (T := TX2) (N := 13) rfl (Nat.le_of_ble_eq_true rfl) k_285 (kf_6_0 ad ρ ((ρ 11 1 r_1.toNatClampNeg 0).toNatClampNeg)) dX4_group_53 ?_
    refine vx_ret (W.widen (k := 2) (n := 12) (Nat.le_of_ble_eq_true rfl) (Nat.le_of_ble_eq_true rfl) ?_)
    exact W.iret (v := ρ 6 0 ((ρ 11 1 r_1.toNatClampNeg 0).toNatClampNeg) 0) C.1 C.2.1 hr (fun t ht hW => ⟨⟨ρ 6 0 ((ρ 11 1 r_1.toNatClampNeg 0).toNatClampNeg) 0, ρ, rfl, kh_pr (hF0.trans hF.symm), kh_bk ht hw⟩, hS.F ht⟩) hS.2.2 dX4_group_56
  have hF := kh_iff hF c_6
  by_cases c_13 : x2 = (2 : Int32)
  · have hF := kh_ift hF c_13
    refine kh_swIn (tgt := 57) (off := 50) C.1 C.2.1 dX4_group_7 c_13 (by decide) (by decide) (by decide +kernel) (by decide) ?_
    refine kh_aload_n C.1 C.2.1 dX4_group_57 rfl (kh_at hl 0 rfl) ?_
    obtain ⟨g_14, hF⟩ := kh_gd_ok hF
    have v_15 := kh_in_lt g_14
    have r_16 := kh_rf (ad := ad) (k := 11) g_14
    refine kh_get C hw 11 8 r_16 v_15 kh_kd11 (Cn := RX1) (T := TX1) (N := 9) rfl (Nat.le_of_ble_eq_true rfl) k_166 (kf_11_8 ad ρ r_1.toNatClampNeg) dX4_group_58 ?_
    refine vx_ret (W.widen (k := 2) (n := 12) (Nat.le_of_ble_eq_true rfl) (Nat.le_of_ble_eq_true rfl) ?_)
    exact W.iret (v := ρ 11 8 r_1.toNatClampNeg 0) C.1 C.2.1 hr (fun t ht hW => ⟨⟨ρ 11 8 r_1.toNatClampNeg 0, ρ, rfl, kh_pr (hF0.trans hF.symm), kh_bk ht hw⟩, hS.F ht⟩) hS.2.2 dX4_group_61
  have hF := kh_iff hF c_13
  by_cases c_17 : x2 = (3 : Int32)
  · have hF := kh_ift hF c_17
    refine kh_swIn (tgt := 62) (off := 55) C.1 C.2.1 dX4_group_7 c_17 (by decide) (by decide) (by decide +kernel) (by decide) ?_
    refine kh_aload_n C.1 C.2.1 dX4_group_62 rfl (kh_at hl 0 rfl) ?_
    obtain ⟨g_18, hF⟩ := kh_gd_ok hF
    have v_19 := kh_in_lt g_18
    have r_20 := kh_rf (ad := ad) (k := 11) g_18
    refine kh_get C hw 11 7 r_20 v_19 kh_kd11 (Cn := RX1) (T := TX1) (N := 9) rfl (Nat.le_of_ble_eq_true rfl) k_174 (kf_11_7 ad ρ r_1.toNatClampNeg) dX4_group_63 ?_
    refine vx_ret (W.widen (k := 2) (n := 12) (Nat.le_of_ble_eq_true rfl) (Nat.le_of_ble_eq_true rfl) ?_)
    exact W.iret (v := ρ 11 7 r_1.toNatClampNeg 0) C.1 C.2.1 hr (fun t ht hW => ⟨⟨ρ 11 7 r_1.toNatClampNeg 0, ρ, rfl, kh_pr (hF0.trans hF.symm), kh_bk ht hw⟩, hS.F ht⟩) hS.2.2 dX4_group_66
  have hF := kh_iff hF c_17
  by_cases c_21 : x2 = (4 : Int32)
  · have hF := kh_ift hF c_21
    refine kh_swIn (tgt := 67) (off := 60) C.1 C.2.1 dX4_group_7 c_21 (by decide) (by decide) (by decide +kernel) (by decide) ?_
    refine kh_aload_n C.1 C.2.1 dX4_group_67 rfl (kh_at hl 0 rfl) ?_
    obtain ⟨g_22, hF⟩ := kh_gd_ok hF
    have v_23 := kh_in_lt g_22
    have r_24 := kh_rf (ad := ad) (k := 11) g_22
    refine kh_get C hw 11 6 r_24 v_23 kh_kd11 (Cn := RX1) (T := TX1) (N := 9) rfl (Nat.le_of_ble_eq_true rfl) k_161 (kf_11_6 ad ρ r_1.toNatClampNeg) dX4_group_68 ?_
    refine lv_if_ne (tgt := 85) C.1 C.2.1 dX4_group_71 (by decide) (fun c_25 => ?_) (fun c_25 => ?_)
    · have hF := kh_iff hF c_25
      refine lv_iconst (v := (0 : Int32)) C.1 C.2.1 dX4_group_85 (by decide) ?_
      exact wL86 (0 : Int32) _ _ _ hF hw hS (kh_sub hl [] rfl)
    · have hF := kh_ift hF c_25
      refine kh_aload_n C.1 C.2.1 dX4_group_74 rfl (kh_at hl 0 rfl) ?_
      refine lv_aload_n C.1 C.2.1 dX4_group_75 rfl (kh_at hl 1 rfl) ?_
      refine kh_get C hw 0 8 rfl (kh_z0 ρ) kh_kd0 (Cn := RX4) (T := TX4) (N := 10) rfl (Nat.le_of_ble_eq_true rfl) k_231 (kf_0_8 ad ρ 0) dX4_group_76 ?_
      obtain ⟨r_26, h_26, hF⟩ := kh_bd_ok hF
      refine kh_calli (va_runV (As := [.int (ρ 0 8 0 0)]) (rest := []) ⟨C.1, C.2.1, C.2.2.1, C.2.2.2.1, C.2.2.2.2.1⟩ (c_X1_minutesLeft l D ca A ad ρ r_1.toNatClampNeg (ρ 0 8 0 0) h_26) (cwV 1 C.2.2.2.2.1 gX4_group_X1_minutesLeft rfl rfl rfl (by decide +kernel) ⟨Nat.le_of_ble_eq_true rfl, Nat.le_of_ble_eq_true rfl⟩) (kh_preV C hw hS 11 v_23 kh_kd11 rfl) rfl rfl hl.1.1 (by show _ = _; rw [r_24]; rfl) (lv_room (kh_sum kh_an (Nat.le_of_ble_eq_true rfl))) dX4_group_79 ⟨Nat.le_of_ble_eq_true rfl, Nat.le_of_ble_eq_true rfl⟩) hS (kh_mp h_26) (fun H locs hw hS => ?_)
      refine lv_goto (tgt := 86) C.1 C.2.1 dX4_group_82 (by decide) ?_
      exact wL86 r_26 _ _ _ hF hw hS (kh_sub hl [] rfl)
  have hF := kh_iff hF c_21
  by_cases c_27 : x2 = (5 : Int32)
  · have hF := kh_ift hF c_27
    refine kh_swIn (tgt := 87) (off := 80) C.1 C.2.1 dX4_group_7 c_27 (by decide) (by decide) (by decide +kernel) (by decide) ?_
    refine kh_aload_n C.1 C.2.1 dX4_group_87 rfl (kh_at hl 0 rfl) ?_
    obtain ⟨g_28, hF⟩ := kh_gd_ok hF
    have v_29 := kh_in_lt g_28
    have r_30 := kh_rf (ad := ad) (k := 11) g_28
    refine kh_get C hw 11 4 r_30 v_29 kh_kd11 (Cn := RX1) (T := TX1) (N := 9) rfl (Nat.le_of_ble_eq_true rfl) k_289 (kf_11_4 ad ρ r_1.toNatClampNeg) dX4_group_88 ?_
    refine vx_ret (W.widen (k := 2) (n := 12) (Nat.le_of_ble_eq_true rfl) (Nat.le_of_ble_eq_true rfl) ?_)
    exact W.iret (v := ρ 11 4 r_1.toNatClampNeg 0) C.1 C.2.1 hr (fun t ht hW => ⟨⟨ρ 11 4 r_1.toNatClampNeg 0, ρ, rfl, kh_pr (hF0.trans hF.symm), kh_bk ht hw⟩, hS.F ht⟩) hS.2.2 dX4_group_91
  have hF := kh_iff hF c_27
  refine lv_tableOut (tgt := 92) C.1 C.2.1 dX4_group_7 (kh_swO (fun k a9 b9 => by
    rcases (show k = 0 ∨ k = 1 ∨ k = 2 ∨ k = 3 ∨ k = 4 ∨ k = 5 by omega) with rfl | rfl | rfl | rfl | rfl | rfl
    · exact kh_neT c_2 (by decide)
    · exact kh_neT c_6 (by decide)
    · exact kh_neT c_13 (by decide)
    · exact kh_neT c_17 (by decide)
    · exact kh_neT c_21 (by decide)
    · exact kh_neT c_27 (by decide))) (by decide) ?_
  exact kh_throwW C hlt hT hw hS hl.1.1 hout hlocks (ik := 42) (is := 292) (ic := 46) (text := "what is 0 to 5") hT.2.2.2.1 (by decide +kernel) (by decide +kernel) kh_hg1 kh_hb1 (C.2.2.2.2.1 (.classLink RX4 42 kh_E1) (by decide +kernel)) (C.2.2.2.2.1 (.initialized kh_E1) (by decide +kernel)) dX4_group_92 dX4_group_95 dX4_group_96 dX4_group_99 dX4_group_102 (kh_pl (hF0.trans hF.symm)) ⟨Nat.le_of_ble_eq_true rfl, Nat.le_of_ble_eq_true rfl, Nat.le_of_ble_eq_true rfl, Nat.le_of_ble_eq_true rfl⟩ ⟨Nat.le_of_ble_eq_true rfl, Nat.le_of_ble_eq_true rfl⟩

def f_X4_crew_L50 (ρ : kh_S) (t0_50 : Int32) : Option (String ⊕ Int32) := some (.inr t0_50)
def f_X4_crew (ρ : kh_S) (x1 : Int32) (x2 : Int32) : Option (String ⊕ Int32) := kh_bx (f_X4_workerNumbered ρ x1) (fun e_1 => some (.inl e_1)) (fun r_1 => if x2 = (0 : Int32) then kh_gd (kh_in r_1 (kh_n ρ 13)) (if (ρ 13 0 r_1.toNatClampNeg 0) < 0 then f_X4_crew_L50 ρ (-1 : Int32) else kh_gd (kh_in (ρ 13 0 r_1.toNatClampNeg 0) (kh_n ρ 6)) (f_X4_crew_L50 ρ (ρ 6 0 ((ρ 13 0 r_1.toNatClampNeg 0).toNatClampNeg) 0))) else (if x2 = (1 : Int32) then kh_gd (kh_in r_1 (kh_n ρ 13)) (some (.inr (ρ 13 1 r_1.toNatClampNeg 0))) else (if x2 = (2 : Int32) then kh_gd (kh_in r_1 (kh_n ρ 13)) (some (.inr (ρ 13 2 r_1.toNatClampNeg 0))) else (some (.inl kh_E1)))))
set_option maxHeartbeats 4000000 in
set_option maxRecDepth 100000 in
theorem c_X4_crew (l : Launch) (hlt : l.stackTraces = false) (D : va_G) (ca : Nat → ClassId) (A : Nat → Prop) (ad : Nat → Nat → Nat) (ρ : kh_S) (x1 : Int32) (x2 : Int32) {q0 : String ⊕ Int32} (hF0 : f_X4_crew ρ x1 x2 = some q0) : vx_Met l yX4_crew wsX4_crew ({ frames := 7, cells := 2, slots := 12, locals := 111 } : Room) (va_Pc [.ref (ad 0 0), .int x1, .int x2] (kh_J D ca A ad ρ)) (kh_Yi D ca A ad (kh_pt (f_X4_crew ρ x1 x2) ρ)) (kh_X D ca A ad (kh_pt (f_X4_crew ρ x1 x2) ρ)) 2 12 A := by
  refine vx_ofW (cc := cX4_crew) (maxL := 4) (ret := (some .int)) (by decide) rfl ?_
  intro p e s m args below meth c s₁ B hml hout hv
  obtain ⟨rfl, ⟨hK, hw, hA⟩, hT⟩ := hv
  have C : kh_C p s m ([.ref (ad 0 0), .int x1, .int x2]).toArray c cX4_crew 4 RX4 wsX4_crew D ca A := ⟨B.exec, B.bytes, hml, findClass_of_methodNamed B.named, atoms_spec (ws := wsX4_crew) B.pre, hK, hA⟩
  have hr := B.returns
  have hlocks := B.notSynchronized
  have hS : va_S A s.heap s.heap [] := va_S.rf
  have hl := kh_entry ([.ref (ad 0 0), .int x1, .int x2]) (n := 4) (kh_ac rfl (kh_ac rfl (kh_ac rfl kh_an))) (Nat.le_of_ble_eq_true rfl)
  rw [lg_entry_eq]
  generalize (lg_sl ([.ref (ad 0 0), .int x1, .int x2]) ++ List.replicate (4 - (lg_sl ([.ref (ad 0 0), .int x1, .int x2])).length) Slot.unset).toArray = ls at hl ⊢
  have hl : kh_lv ls 4 [(0, .ref (ad 0 0)), (1, .int x1), (2, .int x2)] := hl
  have k_209 := C.2.2.2.2.1 (.fieldLink RX4 209 "KeylessHall$Worker" "place" "LKeylessHall$Room;") (by decide +kernel)
  have k_285 := C.2.2.2.2.1 (.fieldLink RX4 285 "KeylessHall$Room" "number" "I") (by decide +kernel)
  have k_223 := C.2.2.2.2.1 (.fieldLink RX4 223 "KeylessHall$Worker" "puzzle" "I") (by decide +kernel)
  have k_294 := C.2.2.2.2.1 (.fieldLink RX4 294 "KeylessHall$Worker" "minutesLeft" "I") (by decide +kernel)
  have hF := hF0
  unfold f_X4_crew at hF
  have wL50 : ∀ (t0_50 : Int32) (H : Heap) (locs : List Loc) (ls : Array Slot), f_X4_crew_L50 ρ t0_50 = some q0 → kh_w D ca A ad ρ H → va_S A s.heap H locs → kh_lv ls 4 [] → W p l e (headSpec wsX4_crew ({ frames := 7, cells := 2, slots := 12, locals := 111 } : Room)).room s m ([.ref (ad 0 0), .int x1, .int x2]).toArray below meth c H locs 1 6 (vx_MQ below (kh_Yi D ca A ad (kh_pt (f_X4_crew ρ x1 x2) ρ)) (kh_X D ca A ad (kh_pt (f_X4_crew ρ x1 x2) ρ)) ([.ref (ad 0 0), .int x1, .int x2]).toArray s 2 12 A) (F0 m 50 ls [.int t0_50]) := by
    intro t0_50 H locs ls hF hw hS hl
    unfold f_X4_crew_L50 at hF
    refine vx_ret (W.widen (k := 2) (n := 12) (Nat.le_of_ble_eq_true rfl) (Nat.le_of_ble_eq_true rfl) ?_)
    exact W.iret (v := t0_50) C.1 C.2.1 hr (fun t ht hW => ⟨⟨t0_50, ρ, rfl, kh_pr (hF0.trans hF.symm), kh_bk ht hw⟩, hS.F ht⟩) hS.2.2 dX4_crew_50
  refine lv_aload_n C.1 C.2.1 dX4_crew_0 rfl (kh_at hl 0 rfl) ?_
  refine lv_iload_n C.1 C.2.1 dX4_crew_1 rfl (kh_at hl 1 rfl) ?_
  rcases kh_bx_ok hF with ⟨e_1, h_1, hF⟩ | ⟨r_1, h_1, hF⟩
  · refine kh_xcallX (vx_runV (As := [.int x1]) (rest := []) ⟨C.1, C.2.1, C.2.2.1, C.2.2.2.1, C.2.2.2.2.1⟩ (c_X4_workerNumbered l hlt D ca A ad ρ x1 h_1) (cwV 1 C.2.2.2.2.1 gX4_crew_X4_workerNumbered rfl rfl rfl (by decide +kernel) ⟨Nat.le_of_ble_eq_true rfl, Nat.le_of_ble_eq_true rfl⟩) (kh_preVJ C hT hw hS 0 (kh_z0 ρ) kh_kd0 rfl) rfl rfl hl.1.1 rfl (lv_room (kh_sum kh_an (Nat.le_of_ble_eq_true rfl))) dX4_crew_2 ⟨Nat.le_of_ble_eq_true rfl, Nat.le_of_ble_eq_true rfl⟩) hS (kh_pl h_1) (kh_notYq (kh_pl h_1)) (fun H locs ce q9 hw hS h7 h8 h9 => ?_)
    exact kh_out hout hlocks h7 h8 h9 hw hS (kh_pl (hF0.trans hF.symm)) (Nat.le_of_ble_eq_true rfl) (Nat.le_of_ble_eq_true rfl)
  refine kh_xcallq (vx_runV (As := [.int x1]) (rest := []) ⟨C.1, C.2.1, C.2.2.1, C.2.2.2.1, C.2.2.2.2.1⟩ (c_X4_workerNumbered l hlt D ca A ad ρ x1 h_1) (cwV 1 C.2.2.2.2.1 gX4_crew_X4_workerNumbered rfl rfl rfl (by decide +kernel) ⟨Nat.le_of_ble_eq_true rfl, Nat.le_of_ble_eq_true rfl⟩) (kh_preVJ C hT hw hS 0 (kh_z0 ρ) kh_kd0 rfl) rfl rfl hl.1.1 rfl (lv_room (kh_sum kh_an (Nat.le_of_ble_eq_true rfl))) dX4_crew_2 ⟨Nat.le_of_ble_eq_true rfl, Nat.le_of_ble_eq_true rfl⟩) hS (kh_pr h_1) (fun H locs hw hS => ?_)
  refine kh_astore_n (lv' := [(3, va_rf (kh_rc ad 13 r_1)), (0, .ref (ad 0 0)), (1, .int x1), (2, .int x2)]) C.1 C.2.1 dX4_crew_5 rfl hl (by decide) rfl (fun ls hl => ?_)
  refine lv_iload_n C.1 C.2.1 dX4_crew_6 rfl (kh_at hl 3 rfl) ?_
  by_cases c_2 : x2 = (0 : Int32)
  · have hF := kh_ift hF c_2
    refine kh_swIn (tgt := 32) (off := 25) C.1 C.2.1 dX4_crew_7 c_2 (by decide) (by decide) (by decide +kernel) (by decide) ?_
    refine kh_aload_n C.1 C.2.1 dX4_crew_32 rfl (kh_at hl 0 rfl) ?_
    obtain ⟨g_3, hF⟩ := kh_gd_ok hF
    have v_4 := kh_in_lt g_3
    have r_5 := kh_rf (ad := ad) (k := 13) g_3
    refine kh_get C hw 13 0 r_5 v_4 kh_kd13 (Cn := RX3) (T := TX3) (N := 3) rfl (Nat.le_of_ble_eq_true rfl) k_209 (kf_13_0 ad ρ r_1.toNatClampNeg) dX4_crew_33 ?_
    refine kh_ifnonnull (tgt := 43) C.1 C.2.1 dX4_crew_36 (by decide) (fun c_6 => ?_) (fun c_6 => ?_)
    · have hF := kh_iff hF c_6
      refine kh_aload_n C.1 C.2.1 dX4_crew_43 rfl (kh_at hl 0 rfl) ?_
      refine kh_get C hw 13 0 r_5 v_4 kh_kd13 (Cn := RX3) (T := TX3) (N := 3) rfl (Nat.le_of_ble_eq_true rfl) k_209 (kf_13_0 ad ρ r_1.toNatClampNeg) dX4_crew_44 ?_
      obtain ⟨g_7, hF⟩ := kh_gd_ok hF
      have v_8 := kh_in_lt g_7
      have r_9 := kh_rf (ad := ad) (k := 6) g_7
      refine kh_get C hw 6 0 r_9 v_8 kh_kd6 (Cn := RX2) (T := TX2) (N := 13) rfl (Nat.le_of_ble_eq_true rfl) k_285 (kf_6_0 ad ρ ((ρ 13 0 r_1.toNatClampNeg 0).toNatClampNeg)) dX4_crew_47 ?_
      exact wL50 (ρ 6 0 ((ρ 13 0 r_1.toNatClampNeg 0).toNatClampNeg) 0) _ _ _ hF hw hS (kh_sub hl [] rfl)
    · have hF := kh_ift hF c_6
      refine lv_iconst (v := (-1 : Int32)) C.1 C.2.1 dX4_crew_39 (by decide) ?_
      refine lv_goto (tgt := 50) C.1 C.2.1 dX4_crew_40 (by decide) ?_
      exact wL50 (-1 : Int32) _ _ _ hF hw hS (kh_sub hl [] rfl)
  have hF := kh_iff hF c_2
  by_cases c_10 : x2 = (1 : Int32)
  · have hF := kh_ift hF c_10
    refine kh_swIn (tgt := 51) (off := 44) C.1 C.2.1 dX4_crew_7 c_10 (by decide) (by decide) (by decide +kernel) (by decide) ?_
    refine kh_aload_n C.1 C.2.1 dX4_crew_51 rfl (kh_at hl 0 rfl) ?_
    obtain ⟨g_11, hF⟩ := kh_gd_ok hF
    have v_12 := kh_in_lt g_11
    have r_13 := kh_rf (ad := ad) (k := 13) g_11
    refine kh_get C hw 13 1 r_13 v_12 kh_kd13 (Cn := RX3) (T := TX3) (N := 3) rfl (Nat.le_of_ble_eq_true rfl) k_223 (kf_13_1 ad ρ r_1.toNatClampNeg) dX4_crew_52 ?_
    refine vx_ret (W.widen (k := 2) (n := 12) (Nat.le_of_ble_eq_true rfl) (Nat.le_of_ble_eq_true rfl) ?_)
    exact W.iret (v := ρ 13 1 r_1.toNatClampNeg 0) C.1 C.2.1 hr (fun t ht hW => ⟨⟨ρ 13 1 r_1.toNatClampNeg 0, ρ, rfl, kh_pr (hF0.trans hF.symm), kh_bk ht hw⟩, hS.F ht⟩) hS.2.2 dX4_crew_55
  have hF := kh_iff hF c_10
  by_cases c_14 : x2 = (2 : Int32)
  · have hF := kh_ift hF c_14
    refine kh_swIn (tgt := 56) (off := 49) C.1 C.2.1 dX4_crew_7 c_14 (by decide) (by decide) (by decide +kernel) (by decide) ?_
    refine kh_aload_n C.1 C.2.1 dX4_crew_56 rfl (kh_at hl 0 rfl) ?_
    obtain ⟨g_15, hF⟩ := kh_gd_ok hF
    have v_16 := kh_in_lt g_15
    have r_17 := kh_rf (ad := ad) (k := 13) g_15
    refine kh_get C hw 13 2 r_17 v_16 kh_kd13 (Cn := RX3) (T := TX3) (N := 3) rfl (Nat.le_of_ble_eq_true rfl) k_294 (kf_13_2 ad ρ r_1.toNatClampNeg) dX4_crew_57 ?_
    refine vx_ret (W.widen (k := 2) (n := 12) (Nat.le_of_ble_eq_true rfl) (Nat.le_of_ble_eq_true rfl) ?_)
    exact W.iret (v := ρ 13 2 r_1.toNatClampNeg 0) C.1 C.2.1 hr (fun t ht hW => ⟨⟨ρ 13 2 r_1.toNatClampNeg 0, ρ, rfl, kh_pr (hF0.trans hF.symm), kh_bk ht hw⟩, hS.F ht⟩) hS.2.2 dX4_crew_60
  have hF := kh_iff hF c_14
  refine lv_tableOut (tgt := 61) C.1 C.2.1 dX4_crew_7 (kh_swO (fun k a9 b9 => by
    rcases (show k = 0 ∨ k = 1 ∨ k = 2 by omega) with rfl | rfl | rfl
    · exact kh_neT c_2 (by decide)
    · exact kh_neT c_10 (by decide)
    · exact kh_neT c_14 (by decide))) (by decide) ?_
  exact kh_throwW C hlt hT hw hS hl.1.1 hout hlocks (ik := 42) (is := 296) (ic := 46) (text := "what is 0 to 2") hT.2.2.2.1 (by decide +kernel) (by decide +kernel) kh_hg1 kh_hb1 (C.2.2.2.2.1 (.classLink RX4 42 kh_E1) (by decide +kernel)) (C.2.2.2.2.1 (.initialized kh_E1) (by decide +kernel)) dX4_crew_61 dX4_crew_64 dX4_crew_65 dX4_crew_68 dX4_crew_71 (kh_pl (hF0.trans hF.symm)) ⟨Nat.le_of_ble_eq_true rfl, Nat.le_of_ble_eq_true rfl, Nat.le_of_ble_eq_true rfl, Nat.le_of_ble_eq_true rfl⟩ ⟨Nat.le_of_ble_eq_true rfl, Nat.le_of_ble_eq_true rfl⟩

def f_X4_booking (ρ : kh_S) (x1 : Int32) (x2 : Int32) : Option (String ⊕ Int32) := kh_bx (f_X4_bookingNumbered ρ x1) (fun e_1 => some (.inl e_1)) (fun r_1 => if x2 = (0 : Int32) then kh_gd (kh_in r_1 (kh_n ρ 14)) (kh_gd (kh_in (ρ 14 0 r_1.toNatClampNeg 0) (kh_n ρ 6)) (some (.inr (ρ 6 0 ((ρ 14 0 r_1.toNatClampNeg 0).toNatClampNeg) 0)))) else (if x2 = (1 : Int32) then kh_gd (kh_in r_1 (kh_n ρ 14)) (some (.inr (ρ 14 1 r_1.toNatClampNeg 0))) else (if x2 = (2 : Int32) then kh_gd (kh_in r_1 (kh_n ρ 14)) (some (.inr (ρ 14 2 r_1.toNatClampNeg 0))) else (if x2 = (3 : Int32) then kh_gd (kh_in r_1 (kh_n ρ 14)) (some (.inr (ρ 14 3 r_1.toNatClampNeg 0))) else (some (.inl kh_E1))))))
set_option maxHeartbeats 4000000 in
set_option maxRecDepth 100000 in
theorem c_X4_booking (l : Launch) (hlt : l.stackTraces = false) (D : va_G) (ca : Nat → ClassId) (A : Nat → Prop) (ad : Nat → Nat → Nat) (ρ : kh_S) (x1 : Int32) (x2 : Int32) {q0 : String ⊕ Int32} (hF0 : f_X4_booking ρ x1 x2 = some q0) : vx_Met l yX4_booking wsX4_booking ({ frames := 7, cells := 2, slots := 12, locals := 111 } : Room) (va_Pc [.ref (ad 0 0), .int x1, .int x2] (kh_J D ca A ad ρ)) (kh_Yi D ca A ad (kh_pt (f_X4_booking ρ x1 x2) ρ)) (kh_X D ca A ad (kh_pt (f_X4_booking ρ x1 x2) ρ)) 2 12 A := by
  refine vx_ofW (cc := cX4_booking) (maxL := 4) (ret := (some .int)) (by decide) rfl ?_
  intro p e s m args below meth c s₁ B hml hout hv
  obtain ⟨rfl, ⟨hK, hw, hA⟩, hT⟩ := hv
  have C : kh_C p s m ([.ref (ad 0 0), .int x1, .int x2]).toArray c cX4_booking 4 RX4 wsX4_booking D ca A := ⟨B.exec, B.bytes, hml, findClass_of_methodNamed B.named, atoms_spec (ws := wsX4_booking) B.pre, hK, hA⟩
  have hr := B.returns
  have hlocks := B.notSynchronized
  have hS : va_S A s.heap s.heap [] := va_S.rf
  have hl := kh_entry ([.ref (ad 0 0), .int x1, .int x2]) (n := 4) (kh_ac rfl (kh_ac rfl (kh_ac rfl kh_an))) (Nat.le_of_ble_eq_true rfl)
  rw [lg_entry_eq]
  generalize (lg_sl ([.ref (ad 0 0), .int x1, .int x2]) ++ List.replicate (4 - (lg_sl ([.ref (ad 0 0), .int x1, .int x2])).length) Slot.unset).toArray = ls at hl ⊢
  have hl : kh_lv ls 4 [(0, .ref (ad 0 0)), (1, .int x1), (2, .int x2)] := hl
  have k_298 := C.2.2.2.2.1 (.fieldLink RX4 298 "KeylessHall$Booking" "place" "LKeylessHall$Room;") (by decide +kernel)
  have k_285 := C.2.2.2.2.1 (.fieldLink RX4 285 "KeylessHall$Room" "number" "I") (by decide +kernel)
  have k_299 := C.2.2.2.2.1 (.fieldLink RX4 299 "KeylessHall$Booking" "begin" "I") (by decide +kernel)
  have k_252 := C.2.2.2.2.1 (.fieldLink RX4 252 "KeylessHall$Booking" "how" "I") (by decide +kernel)
  have k_302 := C.2.2.2.2.1 (.fieldLink RX4 302 "KeylessHall$Booking" "groupNumber" "I") (by decide +kernel)
  have hF := hF0
  unfold f_X4_booking at hF
  refine lv_aload_n C.1 C.2.1 dX4_booking_0 rfl (kh_at hl 0 rfl) ?_
  refine lv_iload_n C.1 C.2.1 dX4_booking_1 rfl (kh_at hl 1 rfl) ?_
  rcases kh_bx_ok hF with ⟨e_1, h_1, hF⟩ | ⟨r_1, h_1, hF⟩
  · refine kh_xcallX (vx_runV (As := [.int x1]) (rest := []) ⟨C.1, C.2.1, C.2.2.1, C.2.2.2.1, C.2.2.2.2.1⟩ (c_X4_bookingNumbered l hlt D ca A ad ρ x1 h_1) (cwV 1 C.2.2.2.2.1 gX4_booking_X4_bookingNumbered rfl rfl rfl (by decide +kernel) ⟨Nat.le_of_ble_eq_true rfl, Nat.le_of_ble_eq_true rfl⟩) (kh_preVJ C hT hw hS 0 (kh_z0 ρ) kh_kd0 rfl) rfl rfl hl.1.1 rfl (lv_room (kh_sum kh_an (Nat.le_of_ble_eq_true rfl))) dX4_booking_2 ⟨Nat.le_of_ble_eq_true rfl, Nat.le_of_ble_eq_true rfl⟩) hS (kh_pl h_1) (kh_notYq (kh_pl h_1)) (fun H locs ce q9 hw hS h7 h8 h9 => ?_)
    exact kh_out hout hlocks h7 h8 h9 hw hS (kh_pl (hF0.trans hF.symm)) (Nat.le_of_ble_eq_true rfl) (Nat.le_of_ble_eq_true rfl)
  refine kh_xcallq (vx_runV (As := [.int x1]) (rest := []) ⟨C.1, C.2.1, C.2.2.1, C.2.2.2.1, C.2.2.2.2.1⟩ (c_X4_bookingNumbered l hlt D ca A ad ρ x1 h_1) (cwV 1 C.2.2.2.2.1 gX4_booking_X4_bookingNumbered rfl rfl rfl (by decide +kernel) ⟨Nat.le_of_ble_eq_true rfl, Nat.le_of_ble_eq_true rfl⟩) (kh_preVJ C hT hw hS 0 (kh_z0 ρ) kh_kd0 rfl) rfl rfl hl.1.1 rfl (lv_room (kh_sum kh_an (Nat.le_of_ble_eq_true rfl))) dX4_booking_2 ⟨Nat.le_of_ble_eq_true rfl, Nat.le_of_ble_eq_true rfl⟩) hS (kh_pr h_1) (fun H locs hw hS => ?_)
  refine kh_astore_n (lv' := [(3, va_rf (kh_rc ad 14 r_1)), (0, .ref (ad 0 0)), (1, .int x1), (2, .int x2)]) C.1 C.2.1 dX4_booking_5 rfl hl (by decide) rfl (fun ls hl => ?_)
  refine lv_iload_n C.1 C.2.1 dX4_booking_6 rfl (kh_at hl 3 rfl) ?_
  by_cases c_2 : x2 = (0 : Int32)
  · have hF := kh_ift hF c_2
    refine kh_swIn (tgt := 36) (off := 29) C.1 C.2.1 dX4_booking_7 c_2 (by decide) (by decide) (by decide +kernel) (by decide) ?_
    refine kh_aload_n C.1 C.2.1 dX4_booking_36 rfl (kh_at hl 0 rfl) ?_
    obtain ⟨g_3, hF⟩ := kh_gd_ok hF
    have v_4 := kh_in_lt g_3
    have r_5 := kh_rf (ad := ad) (k := 14) g_3
    refine kh_get C hw 14 0 r_5 v_4 kh_kd14 (Cn := RX0) (T := TX0) (N := 4) rfl (Nat.le_of_ble_eq_true rfl) k_298 (kf_14_0 ad ρ r_1.toNatClampNeg) dX4_booking_37 ?_
    obtain ⟨g_6, hF⟩ := kh_gd_ok hF
    have v_7 := kh_in_lt g_6
    have r_8 := kh_rf (ad := ad) (k := 6) g_6
    refine kh_get C hw 6 0 r_8 v_7 kh_kd6 (Cn := RX2) (T := TX2) (N := 13) rfl (Nat.le_of_ble_eq_true rfl) k_285 (kf_6_0 ad ρ ((ρ 14 0 r_1.toNatClampNeg 0).toNatClampNeg)) dX4_booking_40 ?_
    refine vx_ret (W.widen (k := 2) (n := 12) (Nat.le_of_ble_eq_true rfl) (Nat.le_of_ble_eq_true rfl) ?_)
    exact W.iret (v := ρ 6 0 ((ρ 14 0 r_1.toNatClampNeg 0).toNatClampNeg) 0) C.1 C.2.1 hr (fun t ht hW => ⟨⟨ρ 6 0 ((ρ 14 0 r_1.toNatClampNeg 0).toNatClampNeg) 0, ρ, rfl, kh_pr (hF0.trans hF.symm), kh_bk ht hw⟩, hS.F ht⟩) hS.2.2 dX4_booking_43
  have hF := kh_iff hF c_2
  by_cases c_9 : x2 = (1 : Int32)
  · have hF := kh_ift hF c_9
    refine kh_swIn (tgt := 44) (off := 37) C.1 C.2.1 dX4_booking_7 c_9 (by decide) (by decide) (by decide +kernel) (by decide) ?_
    refine kh_aload_n C.1 C.2.1 dX4_booking_44 rfl (kh_at hl 0 rfl) ?_
    obtain ⟨g_10, hF⟩ := kh_gd_ok hF
    have v_11 := kh_in_lt g_10
    have r_12 := kh_rf (ad := ad) (k := 14) g_10
    refine kh_get C hw 14 1 r_12 v_11 kh_kd14 (Cn := RX0) (T := TX0) (N := 4) rfl (Nat.le_of_ble_eq_true rfl) k_299 (kf_14_1 ad ρ r_1.toNatClampNeg) dX4_booking_45 ?_
    refine vx_ret (W.widen (k := 2) (n := 12) (Nat.le_of_ble_eq_true rfl) (Nat.le_of_ble_eq_true rfl) ?_)
    exact W.iret (v := ρ 14 1 r_1.toNatClampNeg 0) C.1 C.2.1 hr (fun t ht hW => ⟨⟨ρ 14 1 r_1.toNatClampNeg 0, ρ, rfl, kh_pr (hF0.trans hF.symm), kh_bk ht hw⟩, hS.F ht⟩) hS.2.2 dX4_booking_48
  have hF := kh_iff hF c_9
  by_cases c_13 : x2 = (2 : Int32)
  · have hF := kh_ift hF c_13
    refine kh_swIn (tgt := 49) (off := 42) C.1 C.2.1 dX4_booking_7 c_13 (by decide) (by decide) (by decide +kernel) (by decide) ?_
    refine kh_aload_n C.1 C.2.1 dX4_booking_49 rfl (kh_at hl 0 rfl) ?_
    obtain ⟨g_14, hF⟩ := kh_gd_ok hF
    have v_15 := kh_in_lt g_14
    have r_16 := kh_rf (ad := ad) (k := 14) g_14
    refine kh_get C hw 14 2 r_16 v_15 kh_kd14 (Cn := RX0) (T := TX0) (N := 4) rfl (Nat.le_of_ble_eq_true rfl) k_252 (kf_14_2 ad ρ r_1.toNatClampNeg) dX4_booking_50 ?_
    refine vx_ret (W.widen (k := 2) (n := 12) (Nat.le_of_ble_eq_true rfl) (Nat.le_of_ble_eq_true rfl) ?_)
    exact W.iret (v := ρ 14 2 r_1.toNatClampNeg 0) C.1 C.2.1 hr (fun t ht hW => ⟨⟨ρ 14 2 r_1.toNatClampNeg 0, ρ, rfl, kh_pr (hF0.trans hF.symm), kh_bk ht hw⟩, hS.F ht⟩) hS.2.2 dX4_booking_53
  have hF := kh_iff hF c_13
  by_cases c_17 : x2 = (3 : Int32)
  · have hF := kh_ift hF c_17
    refine kh_swIn (tgt := 54) (off := 47) C.1 C.2.1 dX4_booking_7 c_17 (by decide) (by decide) (by decide +kernel) (by decide) ?_
    refine kh_aload_n C.1 C.2.1 dX4_booking_54 rfl (kh_at hl 0 rfl) ?_
    obtain ⟨g_18, hF⟩ := kh_gd_ok hF
    have v_19 := kh_in_lt g_18
    have r_20 := kh_rf (ad := ad) (k := 14) g_18
    refine kh_get C hw 14 3 r_20 v_19 kh_kd14 (Cn := RX0) (T := TX0) (N := 4) rfl (Nat.le_of_ble_eq_true rfl) k_302 (kf_14_3 ad ρ r_1.toNatClampNeg) dX4_booking_55 ?_
    refine vx_ret (W.widen (k := 2) (n := 12) (Nat.le_of_ble_eq_true rfl) (Nat.le_of_ble_eq_true rfl) ?_)
    exact W.iret (v := ρ 14 3 r_1.toNatClampNeg 0) C.1 C.2.1 hr (fun t ht hW => ⟨⟨ρ 14 3 r_1.toNatClampNeg 0, ρ, rfl, kh_pr (hF0.trans hF.symm), kh_bk ht hw⟩, hS.F ht⟩) hS.2.2 dX4_booking_58
  have hF := kh_iff hF c_17
  refine lv_tableOut (tgt := 59) C.1 C.2.1 dX4_booking_7 (kh_swO (fun k a9 b9 => by
    rcases (show k = 0 ∨ k = 1 ∨ k = 2 ∨ k = 3 by omega) with rfl | rfl | rfl | rfl
    · exact kh_neT c_2 (by decide)
    · exact kh_neT c_9 (by decide)
    · exact kh_neT c_13 (by decide)
    · exact kh_neT c_17 (by decide))) (by decide) ?_
  exact kh_throwW C hlt hT hw hS hl.1.1 hout hlocks (ik := 42) (is := 305) (ic := 46) (text := "what is 0 to 3") hT.2.2.2.1 (by decide +kernel) (by decide +kernel) kh_hg1 kh_hb1 (C.2.2.2.2.1 (.classLink RX4 42 kh_E1) (by decide +kernel)) (C.2.2.2.2.1 (.initialized kh_E1) (by decide +kernel)) dX4_booking_59 dX4_booking_62 dX4_booking_63 dX4_booking_66 dX4_booking_69 (kh_pl (hF0.trans hF.symm)) ⟨Nat.le_of_ble_eq_true rfl, Nat.le_of_ble_eq_true rfl, Nat.le_of_ble_eq_true rfl, Nat.le_of_ble_eq_true rfl⟩ ⟨Nat.le_of_ble_eq_true rfl, Nat.le_of_ble_eq_true rfl⟩

