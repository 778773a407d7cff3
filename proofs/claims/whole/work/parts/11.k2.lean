def f_J6_bitCount_0f7a4 (ρ : kh_S) (x0 : Int32) : Option (Int32) := some ((((((((x0 - (((x0.toUInt32 >>> ((1 : Int32).toUInt32 &&& Int32.toUInt32 31)).toInt32) &&& (1431655765 : Int32))) &&& (858993459 : Int32)) + ((((x0 - (((x0.toUInt32 >>> ((1 : Int32).toUInt32 &&& Int32.toUInt32 31)).toInt32) &&& (1431655765 : Int32))).toUInt32 >>> ((2 : Int32).toUInt32 &&& Int32.toUInt32 31)).toInt32) &&& (858993459 : Int32))) + (((((x0 - (((x0.toUInt32 >>> ((1 : Int32).toUInt32 &&& Int32.toUInt32 31)).toInt32) &&& (1431655765 : Int32))) &&& (858993459 : Int32)) + ((((x0 - (((x0.toUInt32 >>> ((1 : Int32).toUInt32 &&& Int32.toUInt32 31)).toInt32) &&& (1431655765 : Int32))).toUInt32 >>> ((2 : Int32).toUInt32 &&& Int32.toUInt32 31)).toInt32) &&& (858993459 : Int32))).toUInt32 >>> ((4 : Int32).toUInt32 &&& Int32.toUInt32 31)).toInt32)) &&& (252645135 : Int32)) + (((((((x0 - (((x0.toUInt32 >>> ((1 : Int32).toUInt32 &&& Int32.toUInt32 31)).toInt32) &&& (1431655765 : Int32))) &&& (858993459 : Int32)) + ((((x0 - (((x0.toUInt32 >>> ((1 : Int32).toUInt32 &&& Int32.toUInt32 31)).toInt32) &&& (1431655765 : Int32))).toUInt32 >>> ((2 : Int32).toUInt32 &&& Int32.toUInt32 31)).toInt32) &&& (858993459 : Int32))) + (((((x0 - (((x0.toUInt32 >>> ((1 : Int32).toUInt32 &&& Int32.toUInt32 31)).toInt32) &&& (1431655765 : Int32))) &&& (858993459 : Int32)) + ((((x0 - (((x0.toUInt32 >>> ((1 : Int32).toUInt32 &&& Int32.toUInt32 31)).toInt32) &&& (1431655765 : Int32))).toUInt32 >>> ((2 : Int32).toUInt32 &&& Int32.toUInt32 31)).toInt32) &&& (858993459 : Int32))).toUInt32 >>> ((4 : Int32).toUInt32 &&& Int32.toUInt32 31)).toInt32)) &&& (252645135 : Int32)).toUInt32 >>> ((8 : Int32).toUInt32 &&& Int32.toUInt32 31)).toInt32)) + ((((((((x0 - (((x0.toUInt32 >>> ((1 : Int32).toUInt32 &&& Int32.toUInt32 31)).toInt32) &&& (1431655765 : Int32))) &&& (858993459 : Int32)) + ((((x0 - (((x0.toUInt32 >>> ((1 : Int32).toUInt32 &&& Int32.toUInt32 31)).toInt32) &&& (1431655765 : Int32))).toUInt32 >>> ((2 : Int32).toUInt32 &&& Int32.toUInt32 31)).toInt32) &&& (858993459 : Int32))) + (((((x0 - (((x0.toUInt32 >>> ((1 : Int32).toUInt32 &&& Int32.toUInt32 31)).toInt32) &&& (1431655765 : Int32))) &&& (858993459 : Int32)) + ((((x0 - (((x0.toUInt32 >>> ((1 : Int32).toUInt32 &&& Int32.toUInt32 31)).toInt32) &&& (1431655765 : Int32))).toUInt32 >>> ((2 : Int32).toUInt32 &&& Int32.toUInt32 31)).toInt32) &&& (858993459 : Int32))).toUInt32 >>> ((4 : Int32).toUInt32 &&& Int32.toUInt32 31)).toInt32)) &&& (252645135 : Int32)) + (((((((x0 - (((x0.toUInt32 >>> ((1 : Int32).toUInt32 &&& Int32.toUInt32 31)).toInt32) &&& (1431655765 : Int32))) &&& (858993459 : Int32)) + ((((x0 - (((x0.toUInt32 >>> ((1 : Int32).toUInt32 &&& Int32.toUInt32 31)).toInt32) &&& (1431655765 : Int32))).toUInt32 >>> ((2 : Int32).toUInt32 &&& Int32.toUInt32 31)).toInt32) &&& (858993459 : Int32))) + (((((x0 - (((x0.toUInt32 >>> ((1 : Int32).toUInt32 &&& Int32.toUInt32 31)).toInt32) &&& (1431655765 : Int32))) &&& (858993459 : Int32)) + ((((x0 - (((x0.toUInt32 >>> ((1 : Int32).toUInt32 &&& Int32.toUInt32 31)).toInt32) &&& (1431655765 : Int32))).toUInt32 >>> ((2 : Int32).toUInt32 &&& Int32.toUInt32 31)).toInt32) &&& (858993459 : Int32))).toUInt32 >>> ((4 : Int32).toUInt32 &&& Int32.toUInt32 31)).toInt32)) &&& (252645135 : Int32)).toUInt32 >>> ((8 : Int32).toUInt32 &&& Int32.toUInt32 31)).toInt32)).toUInt32 >>> ((16 : Int32).toUInt32 &&& Int32.toUInt32 31)).toInt32)) &&& (63 : Int32))
set_option maxHeartbeats 4000000 in
set_option maxRecDepth 100000 in
theorem c_J6_bitCount_0f7a4 (l : Launch) (D : va_G) (ca : Nat → ClassId) (A : Nat → Prop) (ad : Nat → Nat → Nat) (ρ : kh_S) (x0 : Int32) {q0 : Int32} (hF0 : f_J6_bitCount_0f7a4 ρ x0 = some q0) : Met l yJ6_bitCount_0f7a4 wsJ6_bitCount_0f7a4 ({ frames := 0, cells := 0, slots := 0, locals := 0 } : Room) (va_Pc [.int x0] (kh_I D ca A ad ρ)) (kh_Qi D ca A ad (kh_pu (f_J6_bitCount_0f7a4 ρ x0) ρ)) 0 0 A := by
  refine Met.ofW (cc := cJ6_bitCount_0f7a4) (maxL := 1) (ret := (some .int)) (by decide) rfl ?_
  intro p e s m args below meth c s₁ B hml hv
  obtain ⟨rfl, hK, hw, hA⟩ := hv
  have C : kh_C p s m ([.int x0]).toArray c cJ6_bitCount_0f7a4 1 RJ6 wsJ6_bitCount_0f7a4 D ca A := ⟨B.exec, B.bytes, hml, findClass_of_methodNamed B.named, atoms_spec (ws := wsJ6_bitCount_0f7a4) B.pre, hK, hA⟩
  have hr := B.returns
  have hlocks := B.notSynchronized
  have hS : va_S A s.heap s.heap [] := va_S.rf
  have hl := kh_entry ([.int x0]) (n := 1) (kh_ac rfl kh_an) (Nat.le_of_ble_eq_true rfl)
  rw [lg_entry_eq]
  generalize (lg_sl ([.int x0]) ++ List.replicate (1 - (lg_sl ([.int x0])).length) Slot.unset).toArray = ls at hl ⊢
  have hl : kh_lv ls 1 [(0, .int x0)] := hl
  have k_265 := C.2.2.2.2.1 (.constant RJ6 265 (1431655765 : Int32)) (by decide +kernel)
  have k_266 := C.2.2.2.2.1 (.constant RJ6 266 (858993459 : Int32)) (by decide +kernel)
  have k_267 := C.2.2.2.2.1 (.constant RJ6 267 (252645135 : Int32)) (by decide +kernel)
  have hF := hF0
  unfold f_J6_bitCount_0f7a4 at hF
  refine lv_iload_n C.1 C.2.1 dJ6_bitCount_0f7a4_0 rfl (kh_at hl 0 rfl) ?_
  refine lv_iload_n C.1 C.2.1 dJ6_bitCount_0f7a4_1 rfl (kh_at hl 0 rfl) ?_
  refine lv_iconst (v := (1 : Int32)) C.1 C.2.1 dJ6_bitCount_0f7a4_2 (by decide) ?_
  refine lv_iushr (v := (x0.toUInt32 >>> ((1 : Int32).toUInt32 &&& Int32.toUInt32 31)).toInt32) C.1 C.2.1 dJ6_bitCount_0f7a4_3 rfl ?_
  refine lv_ldcw (own := RJ6) (v := (1431655765 : Int32)) C.1 C.2.1 C.2.2.2.1 k_265 dJ6_bitCount_0f7a4_4 ?_
  refine lv_iand C.1 C.2.1 dJ6_bitCount_0f7a4_7 ?_
  refine lv_isub C.1 C.2.1 dJ6_bitCount_0f7a4_8 ?_
  refine kh_istore_n (lv' := [(0, .int (x0 - (((x0.toUInt32 >>> ((1 : Int32).toUInt32 &&& Int32.toUInt32 31)).toInt32) &&& (1431655765 : Int32))))]) C.1 C.2.1 dJ6_bitCount_0f7a4_9 rfl hl (by decide) rfl (fun ls hl => ?_)
  refine lv_iload_n C.1 C.2.1 dJ6_bitCount_0f7a4_10 rfl (kh_at hl 0 rfl) ?_
  refine lv_ldcw (own := RJ6) (v := (858993459 : Int32)) C.1 C.2.1 C.2.2.2.1 k_266 dJ6_bitCount_0f7a4_11 ?_
  refine lv_iand C.1 C.2.1 dJ6_bitCount_0f7a4_14 ?_
  refine lv_iload_n C.1 C.2.1 dJ6_bitCount_0f7a4_15 rfl (kh_at hl 0 rfl) ?_
  refine lv_iconst (v := (2 : Int32)) C.1 C.2.1 dJ6_bitCount_0f7a4_16 (by decide) ?_
  refine lv_iushr (v := ((x0 - (((x0.toUInt32 >>> ((1 : Int32).toUInt32 &&& Int32.toUInt32 31)).toInt32) &&& (1431655765 : Int32))).toUInt32 >>> ((2 : Int32).toUInt32 &&& Int32.toUInt32 31)).toInt32) C.1 C.2.1 dJ6_bitCount_0f7a4_17 rfl ?_
  refine lv_ldcw (own := RJ6) (v := (858993459 : Int32)) C.1 C.2.1 C.2.2.2.1 k_266 dJ6_bitCount_0f7a4_18 ?_
  refine lv_iand C.1 C.2.1 dJ6_bitCount_0f7a4_21 ?_
  refine lv_iadd C.1 C.2.1 dJ6_bitCount_0f7a4_22 ?_
  refine kh_istore_n (lv' := [(0, .int (((x0 - (((x0.toUInt32 >>> ((1 : Int32).toUInt32 &&& Int32.toUInt32 31)).toInt32) &&& (1431655765 : Int32))) &&& (858993459 : Int32)) + ((((x0 - (((x0.toUInt32 >>> ((1 : Int32).toUInt32 &&& Int32.toUInt32 31)).toInt32) &&& (1431655765 : Int32))).toUInt32 >>> ((2 : Int32).toUInt32 &&& Int32.toUInt32 31)).toInt32) &&& (858993459 : Int32))))]) C.1 C.2.1 dJ6_bitCount_0f7a4_23 rfl hl (by decide) rfl (fun ls hl => ?_)
  refine lv_iload_n C.1 C.2.1 dJ6_bitCount_0f7a4_24 rfl (kh_at hl 0 rfl) ?_
  refine lv_iload_n C.1 C.2.1 dJ6_bitCount_0f7a4_25 rfl (kh_at hl 0 rfl) ?_
  refine lv_iconst (v := (4 : Int32)) C.1 C.2.1 dJ6_bitCount_0f7a4_26 (by decide) ?_
  refine lv_iushr (v := ((((x0 - (((x0.toUInt32 >>> ((1 : Int32).toUInt32 &&& Int32.toUInt32 31)).toInt32) &&& (1431655765 : Int32))) &&& (858993459 : Int32)) + ((((x0 - (((x0.toUInt32 >>> ((1 : Int32).toUInt32 &&& Int32.toUInt32 31)).toInt32) &&& (1431655765 : Int32))).toUInt32 >>> ((2 : Int32).toUInt32 &&& Int32.toUInt32 31)).toInt32) &&& (858993459 : Int32))).toUInt32 >>> ((4 : Int32).toUInt32 &&& Int32.toUInt32 31)).toInt32) C.1 C.2.1 dJ6_bitCount_0f7a4_27 rfl ?_
  refine lv_iadd C.1 C.2.1 dJ6_bitCount_0f7a4_28 ?_
  refine lv_ldcw (own := RJ6) (v := (252645135 : Int32)) C.1 C.2.1 C.2.2.2.1 k_267 dJ6_bitCount_0f7a4_29 ?_
  refine lv_iand C.1 C.2.1 dJ6_bitCount_0f7a4_32 ?_
  refine kh_istore_n (lv' := [(0, .int (((((x0 - (((x0.toUInt32 >>> ((1 : Int32).toUInt32 &&& Int32.toUInt32 31)).toInt32) &&& (1431655765 : Int32))) &&& (858993459 : Int32)) + ((((x0 - (((x0.toUInt32 >>> ((1 : Int32).toUInt32 &&& Int32.toUInt32 31)).toInt32) &&& (1431655765 : Int32))).toUInt32 >>> ((2 : Int32).toUInt32 &&& Int32.toUInt32 31)).toInt32) &&& (858993459 : Int32))) + (((((x0 - (((x0.toUInt32 >>> ((1 : Int32).toUInt32 &&& Int32.toUInt32 31)).toInt32) &&& (1431655765 : Int32))) &&& (858993459 : Int32)) + ((((x0 - (((x0.toUInt32 >>> ((1 : Int32).toUInt32 &&& Int32.toUInt32 31)).toInt32) &&& (1431655765 : Int32))).toUInt32 >>> ((2 : Int32).toUInt32 &&& Int32.toUInt32 31)).toInt32) &&& (858993459 : Int32))).toUInt32 >>> ((4 : Int32).toUInt32 &&& Int32.toUInt32 31)).toInt32)) &&& (252645135 : Int32)))]) C.1 C.2.1 dJ6_bitCount_0f7a4_33 rfl hl (by decide) rfl (fun ls hl => ?_)
  refine lv_iload_n C.1 C.2.1 dJ6_bitCount_0f7a4_34 rfl (kh_at hl 0 rfl) ?_
  refine lv_iload_n C.1 C.2.1 dJ6_bitCount_0f7a4_35 rfl (kh_at hl 0 rfl) ?_
  refine lv_bipush (v := (8 : Int32)) C.1 C.2.1 dJ6_bitCount_0f7a4_36 (by decide) ?_
  refine lv_iushr (v := ((((((x0 - (((x0.toUInt32 >>> ((1 : Int32).toUInt32 &&& Int32.toUInt32 31)).toInt32) &&& (1431655765 : Int32))) &&& (858993459 : Int32)) + ((((x0 - (((x0.toUInt32 >>> ((1 : Int32).toUInt32 &&& Int32.toUInt32 31)).toInt32) &&& (1431655765 : Int32))).toUInt32 >>> ((2 : Int32).toUInt32 &&& Int32.toUInt32 31)).toInt32) &&& (858993459 : Int32))) + (((((x0 - (((x0.toUInt32 >>> ((1 : Int32).toUInt32 &&& Int32.toUInt32 31)).toInt32) &&& (1431655765 : Int32))) &&& (858993459 : Int32)) + ((((x0 - (((x0.toUInt32 >>> ((1 : Int32).toUInt32 &&& Int32.toUInt32 31)).toInt32) &&& (1431655765 : Int32))).toUInt32 >>> ((2 : Int32).toUInt32 &&& Int32.toUInt32 31)).toInt32) &&& (858993459 : Int32))).toUInt32 >>> ((4 : Int32).toUInt32 &&& Int32.toUInt32 31)).toInt32)) &&& (252645135 : Int32)).toUInt32 >>> ((8 : Int32).toUInt32 &&& Int32.toUInt32 31)).toInt32) C.1 C.2.1 dJ6_bitCount_0f7a4_38 rfl ?_
  refine lv_iadd C.1 C.2.1 dJ6_bitCount_0f7a4_39 ?_
  refine kh_istore_n (lv' := [(0, .int ((((((x0 - (((x0.toUInt32 >>> ((1 : Int32).toUInt32 &&& Int32.toUInt32 31)).toInt32) &&& (1431655765 : Int32))) &&& (858993459 : Int32)) + ((((x0 - (((x0.toUInt32 >>> ((1 : Int32).toUInt32 &&& Int32.toUInt32 31)).toInt32) &&& (1431655765 : Int32))).toUInt32 >>> ((2 : Int32).toUInt32 &&& Int32.toUInt32 31)).toInt32) &&& (858993459 : Int32))) + (((((x0 - (((x0.toUInt32 >>> ((1 : Int32).toUInt32 &&& Int32.toUInt32 31)).toInt32) &&& (1431655765 : Int32))) &&& (858993459 : Int32)) + ((((x0 - (((x0.toUInt32 >>> ((1 : Int32).toUInt32 &&& Int32.toUInt32 31)).toInt32) &&& (1431655765 : Int32))).toUInt32 >>> ((2 : Int32).toUInt32 &&& Int32.toUInt32 31)).toInt32) &&& (858993459 : Int32))).toUInt32 >>> ((4 : Int32).toUInt32 &&& Int32.toUInt32 31)).toInt32)) &&& (252645135 : Int32)) + (((((((x0 - (((x0.toUInt32 >>> ((1 : Int32).toUInt32 &&& Int32.toUInt32 31)).toInt32) &&& (1431655765 : Int32))) &&& (858993459 : Int32)) + ((((x0 - (((x0.toUInt32 >>> ((1 : Int32).toUInt32 &&& Int32.toUInt32 31)).toInt32) &&& (1431655765 : Int32))).toUInt32 >>> ((2 : Int32).toUInt32 &&& Int32.toUInt32 31)).toInt32) &&& (858993459 : Int32))) + (((((x0 - (((x0.toUInt32 >>> ((1 : Int32).toUInt32 &&& Int32.toUInt32 31)).toInt32) &&& (1431655765 : Int32))) &&& (858993459 : Int32)) + ((((x0 - (((x0.toUInt32 >>> ((1 : Int32).toUInt32 &&& Int32.toUInt32 31)).toInt32) &&& (1431655765 : Int32))).toUInt32 >>> ((2 : Int32).toUInt32 &&& Int32.toUInt32 31)).toInt32) &&& (858993459 : Int32))).toUInt32 >>> ((4 : Int32).toUInt32 &&& Int32.toUInt32 31)).toInt32)) &&& (252645135 : Int32)).toUInt32 >>> ((8 : Int32).toUInt32 &&& Int32.toUInt32 31)).toInt32)))]) C.1 C.2.1 dJ6_bitCount_0f7a4_40 rfl hl (by decide) rfl (fun ls hl => ?_)
  refine lv_iload_n C.1 C.2.1 dJ6_bitCount_0f7a4_41 rfl (kh_at hl 0 rfl) ?_
  refine lv_iload_n C.1 C.2.1 dJ6_bitCount_0f7a4_42 rfl (kh_at hl 0 rfl) ?_
  refine lv_bipush (v := (16 : Int32)) C.1 C.2.1 dJ6_bitCount_0f7a4_43 (by decide) ?_
  refine lv_iushr (v := (((((((x0 - (((x0.toUInt32 >>> ((1 : Int32).toUInt32 &&& Int32.toUInt32 31)).toInt32) &&& (1431655765 : Int32))) &&& (858993459 : Int32)) + ((((x0 - (((x0.toUInt32 >>> ((1 : Int32).toUInt32 &&& Int32.toUInt32 31)).toInt32) &&& (1431655765 : Int32))).toUInt32 >>> ((2 : Int32).toUInt32 &&& Int32.toUInt32 31)).toInt32) &&& (858993459 : Int32))) + (((((x0 - (((x0.toUInt32 >>> ((1 : Int32).toUInt32 &&& Int32.toUInt32 31)).toInt32) &&& (1431655765 : Int32))) &&& (858993459 : Int32)) + ((((x0 - (((x0.toUInt32 >>> ((1 : Int32).toUInt32 &&& Int32.toUInt32 31)).toInt32) &&& (1431655765 : Int32))).toUInt32 >>> ((2 : Int32).toUInt32 &&& Int32.toUInt32 31)).toInt32) &&& (858993459 : Int32))).toUInt32 >>> ((4 : Int32).toUInt32 &&& Int32.toUInt32 31)).toInt32)) &&& (252645135 : Int32)) + (((((((x0 - (((x0.toUInt32 >>> ((1 : Int32).toUInt32 &&& Int32.toUInt32 31)).toInt32) &&& (1431655765 : Int32))) &&& (858993459 : Int32)) + ((((x0 - (((x0.toUInt32 >>> ((1 : Int32).toUInt32 &&& Int32.toUInt32 31)).toInt32) &&& (1431655765 : Int32))).toUInt32 >>> ((2 : Int32).toUInt32 &&& Int32.toUInt32 31)).toInt32) &&& (858993459 : Int32))) + (((((x0 - (((x0.toUInt32 >>> ((1 : Int32).toUInt32 &&& Int32.toUInt32 31)).toInt32) &&& (1431655765 : Int32))) &&& (858993459 : Int32)) + ((((x0 - (((x0.toUInt32 >>> ((1 : Int32).toUInt32 &&& Int32.toUInt32 31)).toInt32) &&& (1431655765 : Int32))).toUInt32 >>> ((2 : Int32).toUInt32 &&& Int32.toUInt32 31)).toInt32) &&& (858993459 : Int32))).toUInt32 >>> ((4 : Int32).toUInt32 &&& Int32.toUInt32 31)).toInt32)) &&& (252645135 : Int32)).toUInt32 >>> ((8 : Int32).toUInt32 &&& Int32.toUInt32 31)).toInt32)).toUInt32 >>> ((16 : Int32).toUInt32 &&& Int32.toUInt32 31)).toInt32) C.1 C.2.1 dJ6_bitCount_0f7a4_45 rfl ?_
  refine lv_iadd C.1 C.2.1 dJ6_bitCount_0f7a4_46 ?_
  refine kh_istore_n (lv' := [(0, .int (((((((x0 - (((x0.toUInt32 >>> ((1 : Int32).toUInt32 &&& Int32.toUInt32 31)).toInt32) &&& (1431655765 : Int32))) &&& (858993459 : Int32)) + ((((x0 - (((x0.toUInt32 >>> ((1 : Int32).toUInt32 &&& Int32.toUInt32 31)).toInt32) &&& (1431655765 : Int32))).toUInt32 >>> ((2 : Int32).toUInt32 &&& Int32.toUInt32 31)).toInt32) &&& (858993459 : Int32))) + (((((x0 - (((x0.toUInt32 >>> ((1 : Int32).toUInt32 &&& Int32.toUInt32 31)).toInt32) &&& (1431655765 : Int32))) &&& (858993459 : Int32)) + ((((x0 - (((x0.toUInt32 >>> ((1 : Int32).toUInt32 &&& Int32.toUInt32 31)).toInt32) &&& (1431655765 : Int32))).toUInt32 >>> ((2 : Int32).toUInt32 &&& Int32.toUInt32 31)).toInt32) &&& (858993459 : Int32))).toUInt32 >>> ((4 : Int32).toUInt32 &&& Int32.toUInt32 31)).toInt32)) &&& (252645135 : Int32)) + (((((((x0 - (((x0.toUInt32 >>> ((1 : Int32).toUInt32 &&& Int32.toUInt32 31)).toInt32) &&& (1431655765 : Int32))) &&& (858993459 : Int32)) + ((((x0 - (((x0.toUInt32 >>> ((1 : Int32).toUInt32 &&& Int32.toUInt32 31)).toInt32) &&& (1431655765 : Int32))).toUInt32 >>> ((2 : Int32).toUInt32 &&& Int32.toUInt32 31)).toInt32) &&& (858993459 : Int32))) + (((((x0 - (((x0.toUInt32 >>> ((1 : Int32).toUInt32 &&& Int32.toUInt32 31)).toInt32) &&& (1431655765 : Int32))) &&& (858993459 : Int32)) + ((((x0 - (((x0.toUInt32 >>> ((1 : Int32).toUInt32 &&& Int32.toUInt32 31)).toInt32) &&& (1431655765 : Int32))).toUInt32 >>> ((2 : Int32).toUInt32 &&& Int32.toUInt32 31)).toInt32) &&& (858993459 : Int32))).toUInt32 >>> ((4 : Int32).toUInt32 &&& Int32.toUInt32 31)).toInt32)) &&& (252645135 : Int32)).toUInt32 >>> ((8 : Int32).toUInt32 &&& Int32.toUInt32 31)).toInt32)) + ((((((((x0 - (((x0.toUInt32 >>> ((1 : Int32).toUInt32 &&& Int32.toUInt32 31)).toInt32) &&& (1431655765 : Int32))) &&& (858993459 : Int32)) + ((((x0 - (((x0.toUInt32 >>> ((1 : Int32).toUInt32 &&& Int32.toUInt32 31)).toInt32) &&& (1431655765 : Int32))).toUInt32 >>> ((2 : Int32).toUInt32 &&& Int32.toUInt32 31)).toInt32) &&& (858993459 : Int32))) + (((((x0 - (((x0.toUInt32 >>> ((1 : Int32).toUInt32 &&& Int32.toUInt32 31)).toInt32) &&& (1431655765 : Int32))) &&& (858993459 : Int32)) + ((((x0 - (((x0.toUInt32 >>> ((1 : Int32).toUInt32 &&& Int32.toUInt32 31)).toInt32) &&& (1431655765 : Int32))).toUInt32 >>> ((2 : Int32).toUInt32 &&& Int32.toUInt32 31)).toInt32) &&& (858993459 : Int32))).toUInt32 >>> ((4 : Int32).toUInt32 &&& Int32.toUInt32 31)).toInt32)) &&& (252645135 : Int32)) + (((((((x0 - (((x0.toUInt32 >>> ((1 : Int32).toUInt32 &&& Int32.toUInt32 31)).toInt32) &&& (1431655765 : Int32))) &&& (858993459 : Int32)) + ((((x0 - (((x0.toUInt32 >>> ((1 : Int32).toUInt32 &&& Int32.toUInt32 31)).toInt32) &&& (1431655765 : Int32))).toUInt32 >>> ((2 : Int32).toUInt32 &&& Int32.toUInt32 31)).toInt32) &&& (858993459 : Int32))) + (((((x0 - (((x0.toUInt32 >>> ((1 : Int32).toUInt32 &&& Int32.toUInt32 31)).toInt32) &&& (1431655765 : Int32))) &&& (858993459 : Int32)) + ((((x0 - (((x0.toUInt32 >>> ((1 : Int32).toUInt32 &&& Int32.toUInt32 31)).toInt32) &&& (1431655765 : Int32))).toUInt32 >>> ((2 : Int32).toUInt32 &&& Int32.toUInt32 31)).toInt32) &&& (858993459 : Int32))).toUInt32 >>> ((4 : Int32).toUInt32 &&& Int32.toUInt32 31)).toInt32)) &&& (252645135 : Int32)).toUInt32 >>> ((8 : Int32).toUInt32 &&& Int32.toUInt32 31)).toInt32)).toUInt32 >>> ((16 : Int32).toUInt32 &&& Int32.toUInt32 31)).toInt32)))]) C.1 C.2.1 dJ6_bitCount_0f7a4_47 rfl hl (by decide) rfl (fun ls hl => ?_)
  refine lv_iload_n C.1 C.2.1 dJ6_bitCount_0f7a4_48 rfl (kh_at hl 0 rfl) ?_
  refine lv_bipush (v := (63 : Int32)) C.1 C.2.1 dJ6_bitCount_0f7a4_49 (by decide) ?_
  refine lv_iand C.1 C.2.1 dJ6_bitCount_0f7a4_51 ?_
  exact W.iret (v := (((((((x0 - (((x0.toUInt32 >>> ((1 : Int32).toUInt32 &&& Int32.toUInt32 31)).toInt32) &&& (1431655765 : Int32))) &&& (858993459 : Int32)) + ((((x0 - (((x0.toUInt32 >>> ((1 : Int32).toUInt32 &&& Int32.toUInt32 31)).toInt32) &&& (1431655765 : Int32))).toUInt32 >>> ((2 : Int32).toUInt32 &&& Int32.toUInt32 31)).toInt32) &&& (858993459 : Int32))) + (((((x0 - (((x0.toUInt32 >>> ((1 : Int32).toUInt32 &&& Int32.toUInt32 31)).toInt32) &&& (1431655765 : Int32))) &&& (858993459 : Int32)) + ((((x0 - (((x0.toUInt32 >>> ((1 : Int32).toUInt32 &&& Int32.toUInt32 31)).toInt32) &&& (1431655765 : Int32))).toUInt32 >>> ((2 : Int32).toUInt32 &&& Int32.toUInt32 31)).toInt32) &&& (858993459 : Int32))).toUInt32 >>> ((4 : Int32).toUInt32 &&& Int32.toUInt32 31)).toInt32)) &&& (252645135 : Int32)) + (((((((x0 - (((x0.toUInt32 >>> ((1 : Int32).toUInt32 &&& Int32.toUInt32 31)).toInt32) &&& (1431655765 : Int32))) &&& (858993459 : Int32)) + ((((x0 - (((x0.toUInt32 >>> ((1 : Int32).toUInt32 &&& Int32.toUInt32 31)).toInt32) &&& (1431655765 : Int32))).toUInt32 >>> ((2 : Int32).toUInt32 &&& Int32.toUInt32 31)).toInt32) &&& (858993459 : Int32))) + (((((x0 - (((x0.toUInt32 >>> ((1 : Int32).toUInt32 &&& Int32.toUInt32 31)).toInt32) &&& (1431655765 : Int32))) &&& (858993459 : Int32)) + ((((x0 - (((x0.toUInt32 >>> ((1 : Int32).toUInt32 &&& Int32.toUInt32 31)).toInt32) &&& (1431655765 : Int32))).toUInt32 >>> ((2 : Int32).toUInt32 &&& Int32.toUInt32 31)).toInt32) &&& (858993459 : Int32))).toUInt32 >>> ((4 : Int32).toUInt32 &&& Int32.toUInt32 31)).toInt32)) &&& (252645135 : Int32)).toUInt32 >>> ((8 : Int32).toUInt32 &&& Int32.toUInt32 31)).toInt32)) + ((((((((x0 - (((x0.toUInt32 >>> ((1 : Int32).toUInt32 &&& Int32.toUInt32 31)).toInt32) &&& (1431655765 : Int32))) &&& (858993459 : Int32)) + ((((x0 - (((x0.toUInt32 >>> ((1 : Int32).toUInt32 &&& Int32.toUInt32 31)).toInt32) &&& (1431655765 : Int32))).toUInt32 >>> ((2 : Int32).toUInt32 &&& Int32.toUInt32 31)).toInt32) &&& (858993459 : Int32))) + (((((x0 - (((x0.toUInt32 >>> ((1 : Int32).toUInt32 &&& Int32.toUInt32 31)).toInt32) &&& (1431655765 : Int32))) &&& (858993459 : Int32)) + ((((x0 - (((x0.toUInt32 >>> ((1 : Int32).toUInt32 &&& Int32.toUInt32 31)).toInt32) &&& (1431655765 : Int32))).toUInt32 >>> ((2 : Int32).toUInt32 &&& Int32.toUInt32 31)).toInt32) &&& (858993459 : Int32))).toUInt32 >>> ((4 : Int32).toUInt32 &&& Int32.toUInt32 31)).toInt32)) &&& (252645135 : Int32)) + (((((((x0 - (((x0.toUInt32 >>> ((1 : Int32).toUInt32 &&& Int32.toUInt32 31)).toInt32) &&& (1431655765 : Int32))) &&& (858993459 : Int32)) + ((((x0 - (((x0.toUInt32 >>> ((1 : Int32).toUInt32 &&& Int32.toUInt32 31)).toInt32) &&& (1431655765 : Int32))).toUInt32 >>> ((2 : Int32).toUInt32 &&& Int32.toUInt32 31)).toInt32) &&& (858993459 : Int32))) + (((((x0 - (((x0.toUInt32 >>> ((1 : Int32).toUInt32 &&& Int32.toUInt32 31)).toInt32) &&& (1431655765 : Int32))) &&& (858993459 : Int32)) + ((((x0 - (((x0.toUInt32 >>> ((1 : Int32).toUInt32 &&& Int32.toUInt32 31)).toInt32) &&& (1431655765 : Int32))).toUInt32 >>> ((2 : Int32).toUInt32 &&& Int32.toUInt32 31)).toInt32) &&& (858993459 : Int32))).toUInt32 >>> ((4 : Int32).toUInt32 &&& Int32.toUInt32 31)).toInt32)) &&& (252645135 : Int32)).toUInt32 >>> ((8 : Int32).toUInt32 &&& Int32.toUInt32 31)).toInt32)).toUInt32 >>> ((16 : Int32).toUInt32 &&& Int32.toUInt32 31)).toInt32)) &&& (63 : Int32)) C.1 C.2.1 hr (fun t ht hW => ⟨⟨(((((((x0 - (((x0.toUInt32 >>> ((1 : Int32).toUInt32 &&& Int32.toUInt32 31)).toInt32) &&& (1431655765 : Int32))) &&& (858993459 : Int32)) + ((((x0 - (((x0.toUInt32 >>> ((1 : Int32).toUInt32 &&& Int32.toUInt32 31)).toInt32) &&& (1431655765 : Int32))).toUInt32 >>> ((2 : Int32).toUInt32 &&& Int32.toUInt32 31)).toInt32) &&& (858993459 : Int32))) + (((((x0 - (((x0.toUInt32 >>> ((1 : Int32).toUInt32 &&& Int32.toUInt32 31)).toInt32) &&& (1431655765 : Int32))) &&& (858993459 : Int32)) + ((((x0 - (((x0.toUInt32 >>> ((1 : Int32).toUInt32 &&& Int32.toUInt32 31)).toInt32) &&& (1431655765 : Int32))).toUInt32 >>> ((2 : Int32).toUInt32 &&& Int32.toUInt32 31)).toInt32) &&& (858993459 : Int32))).toUInt32 >>> ((4 : Int32).toUInt32 &&& Int32.toUInt32 31)).toInt32)) &&& (252645135 : Int32)) + (((((((x0 - (((x0.toUInt32 >>> ((1 : Int32).toUInt32 &&& Int32.toUInt32 31)).toInt32) &&& (1431655765 : Int32))) &&& (858993459 : Int32)) + ((((x0 - (((x0.toUInt32 >>> ((1 : Int32).toUInt32 &&& Int32.toUInt32 31)).toInt32) &&& (1431655765 : Int32))).toUInt32 >>> ((2 : Int32).toUInt32 &&& Int32.toUInt32 31)).toInt32) &&& (858993459 : Int32))) + (((((x0 - (((x0.toUInt32 >>> ((1 : Int32).toUInt32 &&& Int32.toUInt32 31)).toInt32) &&& (1431655765 : Int32))) &&& (858993459 : Int32)) + ((((x0 - (((x0.toUInt32 >>> ((1 : Int32).toUInt32 &&& Int32.toUInt32 31)).toInt32) &&& (1431655765 : Int32))).toUInt32 >>> ((2 : Int32).toUInt32 &&& Int32.toUInt32 31)).toInt32) &&& (858993459 : Int32))).toUInt32 >>> ((4 : Int32).toUInt32 &&& Int32.toUInt32 31)).toInt32)) &&& (252645135 : Int32)).toUInt32 >>> ((8 : Int32).toUInt32 &&& Int32.toUInt32 31)).toInt32)) + ((((((((x0 - (((x0.toUInt32 >>> ((1 : Int32).toUInt32 &&& Int32.toUInt32 31)).toInt32) &&& (1431655765 : Int32))) &&& (858993459 : Int32)) + ((((x0 - (((x0.toUInt32 >>> ((1 : Int32).toUInt32 &&& Int32.toUInt32 31)).toInt32) &&& (1431655765 : Int32))).toUInt32 >>> ((2 : Int32).toUInt32 &&& Int32.toUInt32 31)).toInt32) &&& (858993459 : Int32))) + (((((x0 - (((x0.toUInt32 >>> ((1 : Int32).toUInt32 &&& Int32.toUInt32 31)).toInt32) &&& (1431655765 : Int32))) &&& (858993459 : Int32)) + ((((x0 - (((x0.toUInt32 >>> ((1 : Int32).toUInt32 &&& Int32.toUInt32 31)).toInt32) &&& (1431655765 : Int32))).toUInt32 >>> ((2 : Int32).toUInt32 &&& Int32.toUInt32 31)).toInt32) &&& (858993459 : Int32))).toUInt32 >>> ((4 : Int32).toUInt32 &&& Int32.toUInt32 31)).toInt32)) &&& (252645135 : Int32)) + (((((((x0 - (((x0.toUInt32 >>> ((1 : Int32).toUInt32 &&& Int32.toUInt32 31)).toInt32) &&& (1431655765 : Int32))) &&& (858993459 : Int32)) + ((((x0 - (((x0.toUInt32 >>> ((1 : Int32).toUInt32 &&& Int32.toUInt32 31)).toInt32) &&& (1431655765 : Int32))).toUInt32 >>> ((2 : Int32).toUInt32 &&& Int32.toUInt32 31)).toInt32) &&& (858993459 : Int32))) + (((((x0 - (((x0.toUInt32 >>> ((1 : Int32).toUInt32 &&& Int32.toUInt32 31)).toInt32) &&& (1431655765 : Int32))) &&& (858993459 : Int32)) + ((((x0 - (((x0.toUInt32 >>> ((1 : Int32).toUInt32 &&& Int32.toUInt32 31)).toInt32) &&& (1431655765 : Int32))).toUInt32 >>> ((2 : Int32).toUInt32 &&& Int32.toUInt32 31)).toInt32) &&& (858993459 : Int32))).toUInt32 >>> ((4 : Int32).toUInt32 &&& Int32.toUInt32 31)).toInt32)) &&& (252645135 : Int32)).toUInt32 >>> ((8 : Int32).toUInt32 &&& Int32.toUInt32 31)).toInt32)).toUInt32 >>> ((16 : Int32).toUInt32 &&& Int32.toUInt32 31)).toInt32)) &&& (63 : Int32), ρ, rfl, kh_mp (hF0.trans hF.symm), kh_bk ht hw⟩, hS.F ht⟩) hS.2.2 dJ6_bitCount_0f7a4_52

def f_X4_minute (ρ : kh_S)  : Option (Int32) := some (ρ 0 8 0 0)
set_option maxHeartbeats 4000000 in
set_option maxRecDepth 100000 in
theorem c_X4_minute (l : Launch) (D : va_G) (ca : Nat → ClassId) (A : Nat → Prop) (ad : Nat → Nat → Nat) (ρ : kh_S)  {q0 : Int32} (hF0 : f_X4_minute ρ = some q0) : Met l yX4_minute wsX4_minute ({ frames := 0, cells := 0, slots := 0, locals := 0 } : Room) (va_Pc [.ref (ad 0 0)] (kh_I D ca A ad ρ)) (kh_Qi D ca A ad (kh_pu (f_X4_minute ρ) ρ)) 0 0 A := by
  refine Met.ofW (cc := cX4_minute) (maxL := 1) (ret := (some .int)) (by decide) rfl ?_
  intro p e s m args below meth c s₁ B hml hv
  obtain ⟨rfl, hK, hw, hA⟩ := hv
  have C : kh_C p s m ([.ref (ad 0 0)]).toArray c cX4_minute 1 RX4 wsX4_minute D ca A := ⟨B.exec, B.bytes, hml, findClass_of_methodNamed B.named, atoms_spec (ws := wsX4_minute) B.pre, hK, hA⟩
  have hr := B.returns
  have hlocks := B.notSynchronized
  have hS : va_S A s.heap s.heap [] := va_S.rf
  have hl := kh_entry ([.ref (ad 0 0)]) (n := 1) (kh_ac rfl kh_an) (Nat.le_of_ble_eq_true rfl)
  rw [lg_entry_eq]
  generalize (lg_sl ([.ref (ad 0 0)]) ++ List.replicate (1 - (lg_sl ([.ref (ad 0 0)])).length) Slot.unset).toArray = ls at hl ⊢
  have hl : kh_lv ls 1 [(0, .ref (ad 0 0))] := hl
  have k_231 := C.2.2.2.2.1 (.fieldLink RX4 231 "KeylessHall" "now" "I") (by decide +kernel)
  have hF := hF0
  unfold f_X4_minute at hF
  refine lv_aload_n C.1 C.2.1 dX4_minute_0 rfl (kh_at hl 0 rfl) ?_
  refine kh_get C hw 0 8 rfl (kh_z0 ρ) kh_kd0 (Cn := RX4) (T := TX4) (N := 10) rfl (Nat.le_of_ble_eq_true rfl) k_231 (kf_0_8 ad ρ 0) dX4_minute_1 ?_
  exact W.iret (v := ρ 0 8 0 0) C.1 C.2.1 hr (fun t ht hW => ⟨⟨ρ 0 8 0 0, ρ, rfl, kh_mp (hF0.trans hF.symm), kh_bk ht hw⟩, hS.F ht⟩) hS.2.2 dX4_minute_4

def f_X4_hasExit_L35 (ρ : kh_S) (t0_35 : Int32) : Option (Int32) := kh_gd (kh_b t0_35) (some t0_35)
def f_X4_hasExit_L34 (ρ : kh_S) : Option (Int32) := f_X4_hasExit_L35 ρ (0 : Int32)
def f_X4_hasExit (ρ : kh_S) (x1 : Int32) : Option (Int32) := kh_gd (kh_in x1 (kh_n ρ 6)) (if (ρ 6 6 x1.toNatClampNeg 0) ≤ 0 then f_X4_hasExit_L34 ρ else kh_bd (f_X2_working ρ x1.toNatClampNeg (ρ 0 7 0 0)) (fun r_6 => kh_bd (f_X2_reach ρ x1.toNatClampNeg (ρ 6 1 x1.toNatClampNeg 0) r_6) (fun r_7 => kh_bd (f_X4_has ρ r_7 (0 : Int32)) (fun r_8 => if r_8 = 0 then f_X4_hasExit_L34 ρ else f_X4_hasExit_L35 ρ (1 : Int32)))))
set_option maxHeartbeats 4000000 in
set_option maxRecDepth 100000 in
theorem c_X4_hasExit (l : Launch) (D : va_G) (ca : Nat → ClassId) (A : Nat → Prop) (ad : Nat → Nat → Nat) (ρ : kh_S) (x1 : Int32) {q0 : Int32} (hF0 : f_X4_hasExit ρ x1 = some q0) : Met l yX4_hasExit wsX4_hasExit ({ frames := 3, cells := 0, slots := 0, locals := 68 } : Room) (va_Pc [.ref (ad 0 0), va_rf (kh_rc ad 6 x1)] (kh_I D ca A ad ρ)) (kh_Qi D ca A ad (kh_pu (f_X4_hasExit ρ x1) ρ)) 0 0 A := by
  refine Met.ofW (cc := cX4_hasExit) (maxL := 2) (ret := (some .boolean)) (by decide) rfl ?_
  intro p e s m args below meth c s₁ B hml hv
  obtain ⟨rfl, hK, hw, hA⟩ := hv
  have C : kh_C p s m ([.ref (ad 0 0), va_rf (kh_rc ad 6 x1)]).toArray c cX4_hasExit 2 RX4 wsX4_hasExit D ca A := ⟨B.exec, B.bytes, hml, findClass_of_methodNamed B.named, atoms_spec (ws := wsX4_hasExit) B.pre, hK, hA⟩
  have hr := B.returns
  have hlocks := B.notSynchronized
  have hS : va_S A s.heap s.heap [] := va_S.rf
  have hl := kh_entry ([.ref (ad 0 0), va_rf (kh_rc ad 6 x1)]) (n := 2) (kh_ac rfl (kh_ac (kh_c1 _) kh_an)) (Nat.le_of_ble_eq_true rfl)
  rw [lg_entry_eq]
  generalize (lg_sl ([.ref (ad 0 0), va_rf (kh_rc ad 6 x1)]) ++ List.replicate (2 - (lg_sl ([.ref (ad 0 0), va_rf (kh_rc ad 6 x1)])).length) Slot.unset).toArray = ls at hl ⊢
  have hl : kh_lv ls 2 [(0, .ref (ad 0 0)), (1, va_rf (kh_rc ad 6 x1))] := hl
  have k_80 := C.2.2.2.2.1 (.fieldLink RX4 80 "KeylessHall$Room" "puzzleCount" "I") (by decide +kernel)
  have k_120 := C.2.2.2.2.1 (.fieldLink RX4 120 "KeylessHall$Room" "things" "I") (by decide +kernel)
  have k_91 := C.2.2.2.2.1 (.fieldLink RX4 91 "KeylessHall" "brokenProps" "I") (by decide +kernel)
  have hF := hF0
  unfold f_X4_hasExit at hF
  have wL35 : ∀ (t0_35 : Int32) (H : Heap) (locs : List Loc) (ls : Array Slot), f_X4_hasExit_L35 ρ t0_35 = some q0 → kh_w D ca A ad ρ H → va_S A s.heap H locs → kh_lv ls 2 [] → W p l e (headSpec wsX4_hasExit ({ frames := 3, cells := 0, slots := 0, locals := 68 } : Room)).room s m ([.ref (ad 0 0), va_rf (kh_rc ad 6 x1)]).toArray below meth c H locs 0 0 (MQ below (kh_Qi D ca A ad (kh_pu (f_X4_hasExit ρ x1) ρ)) ([.ref (ad 0 0), va_rf (kh_rc ad 6 x1)]).toArray s 0 0 A) (F0 m 35 ls [.int t0_35]) := by
    intro t0_35 H locs ls hF hw hS hl
    unfold f_X4_hasExit_L35 at hF
    obtain ⟨g_1, hF⟩ := kh_gd_ok hF
    exact W.zret (v := t0_35) (ty := .boolean) C.1 C.2.1 hr (kh_b_ok g_1).1 (fun t ht hW => ⟨⟨t0_35, ρ, rfl, kh_mp (hF0.trans hF.symm), kh_bk ht hw⟩, hS.F ht⟩) hS.2.2 dX4_hasExit_35
  have wL34 : ∀ (H : Heap) (locs : List Loc) (ls : Array Slot), f_X4_hasExit_L34 ρ = some q0 → kh_w D ca A ad ρ H → va_S A s.heap H locs → kh_lv ls 2 [] → W p l e (headSpec wsX4_hasExit ({ frames := 3, cells := 0, slots := 0, locals := 68 } : Room)).room s m ([.ref (ad 0 0), va_rf (kh_rc ad 6 x1)]).toArray below meth c H locs 0 0 (MQ below (kh_Qi D ca A ad (kh_pu (f_X4_hasExit ρ x1) ρ)) ([.ref (ad 0 0), va_rf (kh_rc ad 6 x1)]).toArray s 0 0 A) (F0 m 34 ls []) := by
    intro  H locs ls hF hw hS hl
    unfold f_X4_hasExit_L34 at hF
    refine lv_iconst (v := (0 : Int32)) C.1 C.2.1 dX4_hasExit_34 (by decide) ?_
    exact wL35 (0 : Int32) _ _ _ hF hw hS (kh_sub hl [] rfl)
  refine kh_aload_n C.1 C.2.1 dX4_hasExit_0 rfl (kh_at hl 1 rfl) ?_
  obtain ⟨g_2, hF⟩ := kh_gd_ok hF
  have v_3 := kh_in_lt g_2
  have r_4 := kh_rf (ad := ad) (k := 6) g_2
  refine kh_get C hw 6 6 r_4 v_3 kh_kd6 (Cn := RX2) (T := TX2) (N := 13) rfl (Nat.le_of_ble_eq_true rfl) k_80 (kf_6_6 ad ρ x1.toNatClampNeg) dX4_hasExit_1 ?_
  refine lv_if_le (tgt := 34) C.1 C.2.1 dX4_hasExit_4 (by decide) (fun c_5 => ?_) (fun c_5 => ?_)
  · have hF := kh_ift hF c_5
    exact wL34  _ _ _ hF hw hS (kh_sub hl [] rfl)
  · have hF := kh_iff hF c_5
    refine kh_aload_n C.1 C.2.1 dX4_hasExit_7 rfl (kh_at hl 1 rfl) ?_
    refine kh_aload_n C.1 C.2.1 dX4_hasExit_8 rfl (kh_at hl 1 rfl) ?_
    refine kh_get C hw 6 1 r_4 v_3 kh_kd6 (Cn := RX2) (T := TX2) (N := 13) rfl (Nat.le_of_ble_eq_true rfl) k_120 (kf_6_1 ad ρ x1.toNatClampNeg) dX4_hasExit_9 ?_
    refine kh_aload_n C.1 C.2.1 dX4_hasExit_12 rfl (kh_at hl 1 rfl) ?_
    refine lv_aload_n C.1 C.2.1 dX4_hasExit_13 rfl (kh_at hl 0 rfl) ?_
    refine kh_get C hw 0 7 rfl (kh_z0 ρ) kh_kd0 (Cn := RX4) (T := TX4) (N := 10) rfl (Nat.le_of_ble_eq_true rfl) k_91 (kf_0_7 ad ρ 0) dX4_hasExit_14 ?_
    obtain ⟨r_6, h_6, hF⟩ := kh_bd_ok hF
    refine kh_calli (va_runV (As := [.int (ρ 0 7 0 0)]) (rest := [.int (ρ 6 1 x1.toNatClampNeg 0), va_rf (kh_rc ad 6 x1)]) ⟨C.1, C.2.1, C.2.2.1, C.2.2.2.1, C.2.2.2.2.1⟩ (c_X2_working l D ca A ad ρ x1.toNatClampNeg (ρ 0 7 0 0) h_6) (cwV 1 C.2.2.2.2.1 gX4_hasExit_X2_working rfl rfl rfl (by decide +kernel) ⟨Nat.le_of_ble_eq_true rfl, Nat.le_of_ble_eq_true rfl⟩) (kh_preV C hw hS 6 v_3 kh_kd6 rfl) rfl rfl hl.1.1 (by show _ = _; rw [r_4]; rfl) (lv_room (kh_sum (kh_ac rfl (kh_ac (kh_c1 _) kh_an)) (Nat.le_of_ble_eq_true rfl))) dX4_hasExit_17 ⟨Nat.le_of_ble_eq_true rfl, Nat.le_of_ble_eq_true rfl⟩) hS (kh_mp h_6) (fun H locs hw hS => ?_)
    obtain ⟨r_7, h_7, hF⟩ := kh_bd_ok hF
    refine kh_calli (va_runV (As := [.int (ρ 6 1 x1.toNatClampNeg 0), .int r_6]) (rest := []) ⟨C.1, C.2.1, C.2.2.1, C.2.2.2.1, C.2.2.2.2.1⟩ (c_X2_reach l D ca A ad ρ x1.toNatClampNeg (ρ 6 1 x1.toNatClampNeg 0) r_6 h_7) (cwV 2 C.2.2.2.2.1 gX4_hasExit_X2_reach rfl rfl rfl (by decide +kernel) ⟨Nat.le_of_ble_eq_true rfl, Nat.le_of_ble_eq_true rfl⟩) (kh_preV C hw hS 6 v_3 kh_kd6 rfl) rfl rfl hl.1.1 (by show _ = _; rw [r_4]; rfl) (lv_room (kh_sum kh_an (Nat.le_of_ble_eq_true rfl))) dX4_hasExit_20 ⟨Nat.le_of_ble_eq_true rfl, Nat.le_of_ble_eq_true rfl⟩) hS (kh_mp h_7) (fun H locs hw hS => ?_)
    refine lv_iconst (v := (0 : Int32)) C.1 C.2.1 dX4_hasExit_23 (by decide) ?_
    obtain ⟨r_8, h_8, hF⟩ := kh_bd_ok hF
    refine kh_calli (va_runS (As := [.int r_7, .int (0 : Int32)]) (rest := []) ⟨C.1, C.2.1, C.2.2.1, C.2.2.2.1, C.2.2.2.2.1⟩ (c_X4_has l D ca A ad ρ r_7 (0 : Int32) h_8) (va_cwS 2 C.2.2.2.2.1 gX4_hasExit_X4_has rfl rfl rfl (by decide +kernel) ⟨Nat.le_of_ble_eq_true rfl, Nat.le_of_ble_eq_true rfl⟩) (kh_preS C hw hS) rfl rfl hl.1.1 rfl (lv_room (kh_sum kh_an (Nat.le_of_ble_eq_true rfl))) dX4_hasExit_24 ⟨Nat.le_of_ble_eq_true rfl, Nat.le_of_ble_eq_true rfl⟩) hS (kh_mp h_8) (fun H locs hw hS => ?_)
    refine lv_if_eq (tgt := 34) C.1 C.2.1 dX4_hasExit_27 (by decide) (fun c_9 => ?_) (fun c_9 => ?_)
    · have hF := kh_ift hF c_9
      exact wL34  _ _ _ hF hw hS (kh_sub hl [] rfl)
    · have hF := kh_iff hF c_9
      refine lv_iconst (v := (1 : Int32)) C.1 C.2.1 dX4_hasExit_30 (by decide) ?_
      refine lv_goto (tgt := 35) C.1 C.2.1 dX4_hasExit_31 (by decide) ?_
      exact wL35 (1 : Int32) _ _ _ hF hw hS (kh_sub hl [] rfl)

def f_X4_addWaysBehind_L58 (ρ_58 : kh_S) : Option (kh_S) := some ρ_58
def f_X4_addWaysBehind_L52 (x1_c3 : Int32) (x2_c3 : Int32) (x3_c3 : Int32) (x4_c3 : Int32) (ρ_52 : kh_S) (x5_52 : Int32) : Option ((kh_S × Int32) ⊕ (kh_S)) := some (.inl (ρ_52, x5_52 + (1 : Int32)))
def f_X4_addWaysBehind_B3 (x1_c3 : Int32) (x2_c3 : Int32) (x3_c3 : Int32) (x4_c3 : Int32) (σ_3 : kh_S) (y5_3 : Int32) : Option ((kh_S × Int32) ⊕ (kh_S)) := kh_gd (kh_in x1_c3 (kh_n σ_3 6)) (if (σ_3 6 6 x1_c3.toNatClampNeg 0) ≤ y5_3 then some (.inr σ_3) else kh_bd (f_X4_has σ_3 x4_c3 y5_3) (fun r_5 => if r_5 = 0 then f_X4_addWaysBehind_L52 x1_c3 x2_c3 x3_c3 x4_c3 σ_3 y5_3 else kh_bd (f_X2_isSolvable σ_3 x1_c3.toNatClampNeg y5_3 x3_c3) (fun r_7 => if r_7 = 0 then f_X4_addWaysBehind_L52 x1_c3 x2_c3 x3_c3 x4_c3 σ_3 y5_3 else kh_bd (f_X4_with σ_3 x2_c3 y5_3) (fun r_9 => kh_gd (kh_in r_9 256) (kh_gd (kh_in x2_c3 256) (f_X4_addWaysBehind_L52 x1_c3 x2_c3 x3_c3 x4_c3 (kh_up σ_3 5 0 0 r_9.toNatClampNeg ((σ_3 5 0 0 r_9.toNatClampNeg) + (σ_3 5 0 0 x2_c3.toNatClampNeg))) y5_3))))))
def f_X4_addWaysBehind_A3 (x1_c3 : Int32) (x2_c3 : Int32) (x3_c3 : Int32) (x4_c3 : Int32) : (kh_S) → Option (kh_S) := (fun u : kh_S => f_X4_addWaysBehind_L58 u)
def f_X4_addWaysBehind (ρ : kh_S) (x1 : Int32) (x2 : Int32) (x3 : Int32) (x4 : Int32) : Option (kh_S) := kh_bd (kh_lp (fun a : kh_S × Int32 => f_X4_addWaysBehind_B3 x1 x2 x3 x4 a.1 a.2) 9999 (ρ, (0 : Int32))) (f_X4_addWaysBehind_A3 x1 x2 x3 x4)
set_option maxHeartbeats 4000000 in
set_option maxRecDepth 100000 in
theorem c_X4_addWaysBehind (l : Launch) (D : va_G) (ca : Nat → ClassId) (A : Nat → Prop) (ad : Nat → Nat → Nat) (ρ : kh_S) (x1 : Int32) (x2 : Int32) (x3 : Int32) (x4 : Int32) {q0 : kh_S} (hF0 : f_X4_addWaysBehind ρ x1 x2 x3 x4 = some q0) : Met l yX4_addWaysBehind wsX4_addWaysBehind ({ frames := 2, cells := 0, slots := 0, locals := 43 } : Room) (va_Pc [.ref (ad 0 0), va_rf (kh_rc ad 6 x1), .int x2, .int x3, .int x4] (kh_I D ca A ad ρ)) (kh_Qv D ca A ad (f_X4_addWaysBehind ρ x1 x2 x3 x4)) 0 0 A := by
  refine Met.ofW (cc := cX4_addWaysBehind) (maxL := 6) (ret := none) (by decide) rfl ?_
  intro p e s m args below meth c s₁ B hml hv
  obtain ⟨rfl, hK, hw, hA⟩ := hv
  have C : kh_C p s m ([.ref (ad 0 0), va_rf (kh_rc ad 6 x1), .int x2, .int x3, .int x4]).toArray c cX4_addWaysBehind 6 RX4 wsX4_addWaysBehind D ca A := ⟨B.exec, B.bytes, hml, findClass_of_methodNamed B.named, atoms_spec (ws := wsX4_addWaysBehind) B.pre, hK, hA⟩
  have hr := B.returns
  have hlocks := B.notSynchronized
  have hS : va_S A s.heap s.heap [] := va_S.rf
  have hl := kh_entry ([.ref (ad 0 0), va_rf (kh_rc ad 6 x1), .int x2, .int x3, .int x4]) (n := 6) (kh_ac rfl (kh_ac (kh_c1 _) (kh_ac rfl (kh_ac rfl (kh_ac rfl kh_an))))) (Nat.le_of_ble_eq_true rfl)
  rw [lg_entry_eq]
  generalize (lg_sl ([.ref (ad 0 0), va_rf (kh_rc ad 6 x1), .int x2, .int x3, .int x4]) ++ List.replicate (6 - (lg_sl ([.ref (ad 0 0), va_rf (kh_rc ad 6 x1), .int x2, .int x3, .int x4])).length) Slot.unset).toArray = ls at hl ⊢
  have hl : kh_lv ls 6 [(0, .ref (ad 0 0)), (1, va_rf (kh_rc ad 6 x1)), (2, .int x2), (3, .int x3), (4, .int x4)] := hl
  have k_80 := C.2.2.2.2.1 (.fieldLink RX4 80 "KeylessHall$Room" "puzzleCount" "I") (by decide +kernel)
  have k_33 := C.2.2.2.2.1 (.fieldLink RX4 33 "KeylessHall" "ways" "[I") (by decide +kernel)
  have hF := hF0
  unfold f_X4_addWaysBehind at hF
  have wL58 : ∀ (ρ_58 : kh_S) (H : Heap) (locs : List Loc) (ls : Array Slot), f_X4_addWaysBehind_L58 ρ_58 = some q0 → kh_w D ca A ad ρ_58 H → va_S A s.heap H locs → kh_lv ls 6 [] → W p l e (headSpec wsX4_addWaysBehind ({ frames := 2, cells := 0, slots := 0, locals := 43 } : Room)).room s m ([.ref (ad 0 0), va_rf (kh_rc ad 6 x1), .int x2, .int x3, .int x4]).toArray below meth c H locs 0 0 (MQ below (kh_Qv D ca A ad (f_X4_addWaysBehind ρ x1 x2 x3 x4)) ([.ref (ad 0 0), va_rf (kh_rc ad 6 x1), .int x2, .int x3, .int x4]).toArray s 0 0 A) (F0 m 58 ls []) := by
    intro ρ_58 H locs ls hF hw hS hl
    unfold f_X4_addWaysBehind_L58 at hF
    exact W.vret C.1 C.2.1 hr (fun t ht hW => ⟨⟨ρ_58, rfl, hF0.trans hF.symm, kh_bk ht hw⟩, hS.F ht⟩) hS.2.2 dX4_addWaysBehind_58
  have wB3 : ∀ (x1_c3 : Int32) (x2_c3 : Int32) (x3_c3 : Int32) (x4_c3 : Int32) (b : kh_S), f_X4_addWaysBehind_A3 x1_c3 x2_c3 x3_c3 x4_c3 b = some q0 → ∀ (n : Nat) (σ_3 : kh_S) (y5_3 : Int32) (H : Heap) (locs : List Loc) (ls : Array Slot), kh_lp (fun a : kh_S × Int32 => f_X4_addWaysBehind_B3 x1_c3 x2_c3 x3_c3 x4_c3 a.1 a.2) n (σ_3, y5_3) = some b → kh_w D ca A ad σ_3 H → va_S A s.heap H locs → kh_lv ls 6 [(0, .ref (ad 0 0)), (1, va_rf (kh_rc ad 6 x1_c3)), (2, .int x2_c3), (3, .int x3_c3), (4, .int x4_c3), (5, .int y5_3)] → W p l e (headSpec wsX4_addWaysBehind ({ frames := 2, cells := 0, slots := 0, locals := 43 } : Room)).room s m ([.ref (ad 0 0), va_rf (kh_rc ad 6 x1), .int x2, .int x3, .int x4]).toArray below meth c H locs 0 0 (MQ below (kh_Qv D ca A ad (f_X4_addWaysBehind ρ x1 x2 x3 x4)) ([.ref (ad 0 0), va_rf (kh_rc ad 6 x1), .int x2, .int x3, .int x4]).toArray s 0 0 A) (F0 m 3 ls []) := by
    intro x1_c3 x2_c3 x3_c3 x4_c3 b hA_3 n
    induction n with
    | zero => intro σ_3 y5_3 H locs ls h9; exact absurd h9 (fun z => nomatch z)
    | succ n ih_3 =>
      intro σ_3 y5_3 H locs ls hb_3 hw hS hl
      obtain ⟨q_3, hF, hb_3⟩ := kh_lp_ok hb_3
      have hF : f_X4_addWaysBehind_B3 x1_c3 x2_c3 x3_c3 x4_c3 σ_3 y5_3 = some q_3 := hF
      have wL52 : ∀ (ρ_52 : kh_S) (x5_52 : Int32) (H : Heap) (locs : List Loc) (ls : Array Slot), f_X4_addWaysBehind_L52 x1_c3 x2_c3 x3_c3 x4_c3 ρ_52 x5_52 = some q_3 → kh_w D ca A ad ρ_52 H → va_S A s.heap H locs → kh_lv ls 6 [(0, .ref (ad 0 0)), (1, va_rf (kh_rc ad 6 x1_c3)), (2, .int x2_c3), (3, .int x3_c3), (4, .int x4_c3), (5, .int x5_52)] → W p l e (headSpec wsX4_addWaysBehind ({ frames := 2, cells := 0, slots := 0, locals := 43 } : Room)).room s m ([.ref (ad 0 0), va_rf (kh_rc ad 6 x1), .int x2, .int x3, .int x4]).toArray below meth c H locs 0 0 (MQ below (kh_Qv D ca A ad (f_X4_addWaysBehind ρ x1 x2 x3 x4)) ([.ref (ad 0 0), va_rf (kh_rc ad 6 x1), .int x2, .int x3, .int x4]).toArray s 0 0 A) (F0 m 52 ls []) := by
        intro ρ_52 x5_52 H locs ls hF hw hS hl
        unfold f_X4_addWaysBehind_L52 at hF
        refine kh_iinc (v := x5_52 + (1 : Int32)) (lv' := [(5, .int (x5_52 + (1 : Int32))), (0, .ref (ad 0 0)), (1, va_rf (kh_rc ad 6 x1_c3)), (2, .int x2_c3), (3, .int x3_c3), (4, .int x4_c3)]) C.1 C.2.1 dX4_addWaysBehind_52 hl (k := 5) rfl (by rfl) (by decide) rfl (fun ls hl => ?_)
        refine lv_goto (tgt := 3) C.1 C.2.1 dX4_addWaysBehind_55 (by decide) ?_
        have e9 := Option.some.inj hF
        rcases hb_3 with ⟨a9, h8, h9⟩ | h8
        · have h7 := Sum.inl.inj (e9.trans h8)
          subst h7
          exact ih_3 _ _ _ _ _ h9 hw hS (kh_sub hl [1, 2, 3, 4, 5, 0] rfl)
        · exact absurd (e9.trans h8) (fun z => nomatch z)
      unfold f_X4_addWaysBehind_B3 at hF
      refine lv_iload C.1 C.2.1 dX4_addWaysBehind_3 (kh_at hl 5 rfl) ?_
      refine kh_aload_n C.1 C.2.1 dX4_addWaysBehind_5 rfl (kh_at hl 1 rfl) ?_
      obtain ⟨g_1, hF⟩ := kh_gd_ok hF
      have v_2 := kh_in_lt g_1
      have r_3 := kh_rf (ad := ad) (k := 6) g_1
      refine kh_get C hw 6 6 r_3 v_2 kh_kd6 (Cn := RX2) (T := TX2) (N := 13) rfl (Nat.le_of_ble_eq_true rfl) k_80 (kf_6_6 ad σ_3 x1_c3.toNatClampNeg) dX4_addWaysBehind_6 ?_
      refine lv_icmp_ge (tgt := 58) C.1 C.2.1 dX4_addWaysBehind_9 (by decide) (fun c_4 => ?_) (fun c_4 => ?_)
      · have hF := kh_ift hF c_4
        have e9 := Option.some.inj hF
        rcases hb_3 with ⟨a9, h8, h9⟩ | h8
        · exact absurd (e9.trans h8) (fun z => nomatch z)
        have h7 := Sum.inr.inj (e9.trans h8)
        have hF := (congrArg (f_X4_addWaysBehind_A3 x1_c3 x2_c3 x3_c3 x4_c3) h7).trans hA_3
        exact wL58 σ_3 _ _ _ hF hw hS (kh_sub hl [] rfl)
      · have hF := kh_iff hF c_4
        refine lv_iload C.1 C.2.1 dX4_addWaysBehind_12 (kh_at hl 4 rfl) ?_
        refine lv_iload C.1 C.2.1 dX4_addWaysBehind_14 (kh_at hl 5 rfl) ?_
        obtain ⟨r_5, h_5, hF⟩ := kh_bd_ok hF
        refine kh_calli (va_runS (As := [.int x4_c3, .int y5_3]) (rest := []) ⟨C.1, C.2.1, C.2.2.1, C.2.2.2.1, C.2.2.2.2.1⟩ (c_X4_has l D ca A ad σ_3 x4_c3 y5_3 h_5) (va_cwS 2 C.2.2.2.2.1 gX4_addWaysBehind_X4_has rfl rfl rfl (by decide +kernel) ⟨Nat.le_of_ble_eq_true rfl, Nat.le_of_ble_eq_true rfl⟩) (kh_preS C hw hS) rfl rfl hl.1.1 rfl (lv_room (kh_sum kh_an (Nat.le_of_ble_eq_true rfl))) dX4_addWaysBehind_16 ⟨Nat.le_of_ble_eq_true rfl, Nat.le_of_ble_eq_true rfl⟩) hS (kh_mp h_5) (fun H locs hw hS => ?_)
        refine lv_if_eq (tgt := 52) C.1 C.2.1 dX4_addWaysBehind_19 (by decide) (fun c_6 => ?_) (fun c_6 => ?_)
        · have hF := kh_ift hF c_6
          exact wL52 σ_3 y5_3 _ _ _ hF hw hS (kh_sub hl [0, 1, 2, 3, 4, 5] rfl)
        · have hF := kh_iff hF c_6
          refine kh_aload_n C.1 C.2.1 dX4_addWaysBehind_22 rfl (kh_at hl 1 rfl) ?_
          refine lv_iload C.1 C.2.1 dX4_addWaysBehind_23 (kh_at hl 5 rfl) ?_
          refine lv_iload_n C.1 C.2.1 dX4_addWaysBehind_25 rfl (kh_at hl 3 rfl) ?_
          obtain ⟨r_7, h_7, hF⟩ := kh_bd_ok hF
          refine kh_calli (va_runV (As := [.int y5_3, .int x3_c3]) (rest := []) ⟨C.1, C.2.1, C.2.2.1, C.2.2.2.1, C.2.2.2.2.1⟩ (c_X2_isSolvable l D ca A ad σ_3 x1_c3.toNatClampNeg y5_3 x3_c3 h_7) (cwV 2 C.2.2.2.2.1 gX4_addWaysBehind_X2_isSolvable rfl rfl rfl (by decide +kernel) ⟨Nat.le_of_ble_eq_true rfl, Nat.le_of_ble_eq_true rfl⟩) (kh_preV C hw hS 6 v_2 kh_kd6 rfl) rfl rfl hl.1.1 (by show _ = _; rw [r_3]; rfl) (lv_room (kh_sum kh_an (Nat.le_of_ble_eq_true rfl))) dX4_addWaysBehind_26 ⟨Nat.le_of_ble_eq_true rfl, Nat.le_of_ble_eq_true rfl⟩) hS (kh_mp h_7) (fun H locs hw hS => ?_)
          refine lv_if_eq (tgt := 52) C.1 C.2.1 dX4_addWaysBehind_29 (by decide) (fun c_8 => ?_) (fun c_8 => ?_)
          · have hF := kh_ift hF c_8
            exact wL52 σ_3 y5_3 _ _ _ hF hw hS (kh_sub hl [0, 1, 2, 3, 4, 5] rfl)
          · have hF := kh_iff hF c_8
            refine lv_aload_n C.1 C.2.1 dX4_addWaysBehind_32 rfl (kh_at hl 0 rfl) ?_
            refine kh_get C hw 0 9 rfl (kh_z0 σ_3) kh_kd0 (Cn := RX4) (T := TX4) (N := 10) rfl (Nat.le_of_ble_eq_true rfl) k_33 (kf_0_9 ad σ_3 0) dX4_addWaysBehind_33 ?_
            refine lv_iload_n C.1 C.2.1 dX4_addWaysBehind_36 rfl (kh_at hl 2 rfl) ?_
            refine lv_iload C.1 C.2.1 dX4_addWaysBehind_37 (kh_at hl 5 rfl) ?_
            obtain ⟨r_9, h_9, hF⟩ := kh_bd_ok hF
            refine kh_calli (va_runS (As := [.int x2_c3, .int y5_3]) (rest := [.ref (ad 5 0)]) ⟨C.1, C.2.1, C.2.2.1, C.2.2.2.1, C.2.2.2.2.1⟩ (c_X4_with l D ca A ad σ_3 x2_c3 y5_3 h_9) (va_cwS 2 C.2.2.2.2.1 gX4_addWaysBehind_X4_with rfl rfl rfl (by decide +kernel) ⟨Nat.le_of_ble_eq_true rfl, Nat.le_of_ble_eq_true rfl⟩) (kh_preS C hw hS) rfl rfl hl.1.1 rfl (lv_room (kh_sum (kh_ac rfl kh_an) (Nat.le_of_ble_eq_true rfl))) dX4_addWaysBehind_39 ⟨Nat.le_of_ble_eq_true rfl, Nat.le_of_ble_eq_true rfl⟩) hS (kh_mp h_9) (fun H locs hw hS => ?_)
            refine lv_dup2_11 C.1 C.2.1 dX4_addWaysBehind_42 rfl rfl ?_
            obtain ⟨g_10, hF⟩ := kh_gd_ok hF
            refine kh_iald C hw 5 rfl (kh_z5 σ_3) kh_kd5 g_10 dX4_addWaysBehind_43 ?_
            refine lv_aload_n C.1 C.2.1 dX4_addWaysBehind_44 rfl (kh_at hl 0 rfl) ?_
            refine kh_get C hw 0 9 rfl (kh_z0 σ_3) kh_kd0 (Cn := RX4) (T := TX4) (N := 10) rfl (Nat.le_of_ble_eq_true rfl) k_33 (kf_0_9 ad σ_3 0) dX4_addWaysBehind_45 ?_
            refine lv_iload_n C.1 C.2.1 dX4_addWaysBehind_48 rfl (kh_at hl 2 rfl) ?_
            obtain ⟨g_11, hF⟩ := kh_gd_ok hF
            refine kh_iald C hw 5 rfl (kh_z5 σ_3) kh_kd5 g_11 dX4_addWaysBehind_49 ?_
            refine lv_iadd C.1 C.2.1 dX4_addWaysBehind_50 ?_
            refine kh_iast C hw hS 5 rfl (kh_z5 σ_3) (by decide) kh_kd5 g_10 dX4_addWaysBehind_51 (fun H locs hw hS => ?_)
            exact wL52 (kh_up σ_3 5 0 0 r_9.toNatClampNeg ((σ_3 5 0 0 r_9.toNatClampNeg) + (σ_3 5 0 0 x2_c3.toNatClampNeg))) y5_3 _ _ _ hF hw hS (kh_sub hl [0, 1, 2, 3, 4, 5] rfl)
  refine lv_iconst (v := (0 : Int32)) C.1 C.2.1 dX4_addWaysBehind_0 (by decide) ?_
  refine kh_istore (lv' := [(5, .int (0 : Int32)), (0, .ref (ad 0 0)), (1, va_rf (kh_rc ad 6 x1)), (2, .int x2), (3, .int x3), (4, .int x4)]) C.1 C.2.1 dX4_addWaysBehind_1 hl (by decide) rfl (fun ls hl => ?_)
  obtain ⟨b_3, hb_3, hF⟩ := kh_bd_ok hF
  exact wB3 x1 x2 x3 x4 b_3 hF _ ρ (0 : Int32) _ _ _ hb_3 hw hS (kh_sub hl [1, 2, 3, 4, 5, 0] rfl)

def f_X4_countOrdersBySets_L116 (ρ_116 : kh_S) (x4_116 : Int32) : Option (Int32 × kh_S) := some (x4_116, ρ_116)
def f_X4_countOrdersBySets_L110 (x1_c52 : Int32) (x2_c52 : Int32) (x3_c52 : Int32) (ρ_110 : kh_S) (x4_110 : Int32) (x5_110 : Int32) : Option ((kh_S × Int32 × Int32) ⊕ (kh_S × Int32)) := some (.inl (ρ_110, x4_110, x5_110 + (1 : Int32)))
def f_X4_countOrdersBySets_B52 (x1_c52 : Int32) (x2_c52 : Int32) (x3_c52 : Int32) (σ_52 : kh_S) (y4_52 : Int32) (y5_52 : Int32) : Option ((kh_S × Int32 × Int32) ⊕ (kh_S × Int32)) := if x3_c52 ≤ y5_52 then some (.inr (σ_52, y4_52)) else kh_gd (kh_in x1_c52 (kh_n σ_52 6)) (kh_bd (f_X2_givenBy σ_52 x1_c52.toNatClampNeg y5_52) (fun r_5 => kh_bd (f_X4_has σ_52 ((σ_52 6 1 x1_c52.toNatClampNeg 0) ||| r_5) (0 : Int32)) (fun r_6 => if r_6 = 0 then kh_bd (f_X4_addWaysBehind σ_52 x1_c52 y5_52 ((σ_52 6 1 x1_c52.toNatClampNeg 0) ||| r_5) (x2_c52 &&& (y5_52 ^^^ (-1 : Int32)))) (fun ρ_8 => f_X4_countOrdersBySets_L110 x1_c52 x2_c52 x3_c52 ρ_8 y4_52 y5_52) else kh_gd (kh_in y5_52 256) (f_X4_countOrdersBySets_L110 x1_c52 x2_c52 x3_c52 σ_52 (y4_52 + (σ_52 5 0 0 y5_52.toNatClampNeg)) y5_52))))
def f_X4_countOrdersBySets_A52 (x1_c52 : Int32) (x2_c52 : Int32) (x3_c52 : Int32) : (kh_S × Int32) → Option (Int32 × kh_S) := (fun u : kh_S × Int32 => f_X4_countOrdersBySets_L116 u.1 u.2)
def f_X4_countOrdersBySets_L39 (ρ_39 : kh_S) (x1_39 : Int32) (x2_39 : Int32) (x3_39 : Int32) : Option (Int32 × kh_S) := kh_gd (kh_in (0 : Int32) 256) (kh_bd (kh_lp (fun a : kh_S × Int32 × Int32 => f_X4_countOrdersBySets_B52 x1_39 x2_39 x3_39 a.1 a.2.1 a.2.2) 9999 (kh_up ρ_39 5 0 0 (0 : Int32).toNatClampNeg (1 : Int32), (0 : Int32), (0 : Int32))) (f_X4_countOrdersBySets_A52 x1_39 x2_39 x3_39))
def f_X4_countOrdersBySets_B19 (x1_c19 : Int32) (x2_c19 : Int32) (x3_c19 : Int32) (σ_19 : kh_S) (y4_19 : Int32) : Option ((kh_S × Int32) ⊕ (kh_S)) := if x3_c19 ≤ y4_19 then some (.inr σ_19) else kh_gd (kh_in y4_19 256) (some (.inl (kh_up σ_19 5 0 0 y4_19.toNatClampNeg (0 : Int32), y4_19 + (1 : Int32))))
def f_X4_countOrdersBySets_A19 (x1_c19 : Int32) (x2_c19 : Int32) (x3_c19 : Int32) : (kh_S) → Option (Int32 × kh_S) := (fun u : kh_S => f_X4_countOrdersBySets_L39 u x1_c19 x2_c19 x3_c19)
def f_X4_countOrdersBySets (ρ : kh_S) (x1 : Int32) : Option (Int32 × kh_S) := kh_gd (kh_in x1 (kh_n ρ 6)) (kh_bd (f_X2_working ρ x1.toNatClampNeg (ρ 0 7 0 0)) (fun r_16 => kh_bd (kh_lp (fun a : kh_S × Int32 => f_X4_countOrdersBySets_B19 x1 r_16 ((1 : Int32) <<< ((ρ 6 6 x1.toNatClampNeg 0) &&& 31)) a.1 a.2) 9999 (ρ, (0 : Int32))) (f_X4_countOrdersBySets_A19 x1 r_16 ((1 : Int32) <<< ((ρ 6 6 x1.toNatClampNeg 0) &&& 31)))))
set_option maxHeartbeats 4000000 in
set_option maxRecDepth 100000 in
theorem c_X4_countOrdersBySets (l : Launch) (D : va_G) (ca : Nat → ClassId) (A : Nat → Prop) (ad : Nat → Nat → Nat) (ρ : kh_S) (x1 : Int32) {q0 : Int32 × kh_S} (hF0 : f_X4_countOrdersBySets ρ x1 = some q0) : Met l yX4_countOrdersBySets wsX4_countOrdersBySets ({ frames := 3, cells := 0, slots := 0, locals := 68 } : Room) (va_Pc [.ref (ad 0 0), va_rf (kh_rc ad 6 x1)] (kh_I D ca A ad ρ)) (kh_Qi D ca A ad (f_X4_countOrdersBySets ρ x1)) 0 0 A := by
  refine Met.ofW (cc := cX4_countOrdersBySets) (maxL := 7) (ret := (some .int)) (by decide) rfl ?_
  intro p e s m args below meth c s₁ B hml hv
  obtain ⟨rfl, hK, hw, hA⟩ := hv
  have C : kh_C p s m ([.ref (ad 0 0), va_rf (kh_rc ad 6 x1)]).toArray c cX4_countOrdersBySets 7 RX4 wsX4_countOrdersBySets D ca A := ⟨B.exec, B.bytes, hml, findClass_of_methodNamed B.named, atoms_spec (ws := wsX4_countOrdersBySets) B.pre, hK, hA⟩
  have hr := B.returns
  have hlocks := B.notSynchronized
  have hS : va_S A s.heap s.heap [] := va_S.rf
  have hl := kh_entry ([.ref (ad 0 0), va_rf (kh_rc ad 6 x1)]) (n := 7) (kh_ac rfl (kh_ac (kh_c1 _) kh_an)) (Nat.le_of_ble_eq_true rfl)
  rw [lg_entry_eq]
  generalize (lg_sl ([.ref (ad 0 0), va_rf (kh_rc ad 6 x1)]) ++ List.replicate (7 - (lg_sl ([.ref (ad 0 0), va_rf (kh_rc ad 6 x1)])).length) Slot.unset).toArray = ls at hl ⊢
  have hl : kh_lv ls 7 [(0, .ref (ad 0 0)), (1, va_rf (kh_rc ad 6 x1))] := hl
  have k_120 := C.2.2.2.2.1 (.fieldLink RX4 120 "KeylessHall$Room" "things" "I") (by decide +kernel)
  have k_33 := C.2.2.2.2.1 (.fieldLink RX4 33 "KeylessHall" "ways" "[I") (by decide +kernel)
  have k_91 := C.2.2.2.2.1 (.fieldLink RX4 91 "KeylessHall" "brokenProps" "I") (by decide +kernel)
  have k_80 := C.2.2.2.2.1 (.fieldLink RX4 80 "KeylessHall$Room" "puzzleCount" "I") (by decide +kernel)
  have hF := hF0
  unfold f_X4_countOrdersBySets at hF
  have wL116 : ∀ (ρ_116 : kh_S) (x4_116 : Int32) (H : Heap) (locs : List Loc) (ls : Array Slot), f_X4_countOrdersBySets_L116 ρ_116 x4_116 = some q0 → kh_w D ca A ad ρ_116 H → va_S A s.heap H locs → kh_lv ls 7 [(4, .int x4_116)] → W p l e (headSpec wsX4_countOrdersBySets ({ frames := 3, cells := 0, slots := 0, locals := 68 } : Room)).room s m ([.ref (ad 0 0), va_rf (kh_rc ad 6 x1)]).toArray below meth c H locs 0 0 (MQ below (kh_Qi D ca A ad (f_X4_countOrdersBySets ρ x1)) ([.ref (ad 0 0), va_rf (kh_rc ad 6 x1)]).toArray s 0 0 A) (F0 m 116 ls []) := by
    intro ρ_116 x4_116 H locs ls hF hw hS hl
    unfold f_X4_countOrdersBySets_L116 at hF
    refine lv_iload C.1 C.2.1 dX4_countOrdersBySets_116 (kh_at hl 0 rfl) ?_
    exact W.iret (v := x4_116) C.1 C.2.1 hr (fun t ht hW => ⟨⟨x4_116, ρ_116, rfl, hF0.trans hF.symm, kh_bk ht hw⟩, hS.F ht⟩) hS.2.2 dX4_countOrdersBySets_118
  have wB52 : ∀ (x1_c52 : Int32) (x2_c52 : Int32) (x3_c52 : Int32) (b : kh_S × Int32), f_X4_countOrdersBySets_A52 x1_c52 x2_c52 x3_c52 b = some q0 → ∀ (n : Nat) (σ_52 : kh_S) (y4_52 : Int32) (y5_52 : Int32) (H : Heap) (locs : List Loc) (ls : Array Slot), kh_lp (fun a : kh_S × Int32 × Int32 => f_X4_countOrdersBySets_B52 x1_c52 x2_c52 x3_c52 a.1 a.2.1 a.2.2) n (σ_52, y4_52, y5_52) = some b → kh_w D ca A ad σ_52 H → va_S A s.heap H locs → kh_lv ls 7 [(0, .ref (ad 0 0)), (1, va_rf (kh_rc ad 6 x1_c52)), (2, .int x2_c52), (3, .int x3_c52), (4, .int y4_52), (5, .int y5_52)] → W p l e (headSpec wsX4_countOrdersBySets ({ frames := 3, cells := 0, slots := 0, locals := 68 } : Room)).room s m ([.ref (ad 0 0), va_rf (kh_rc ad 6 x1)]).toArray below meth c H locs 0 0 (MQ below (kh_Qi D ca A ad (f_X4_countOrdersBySets ρ x1)) ([.ref (ad 0 0), va_rf (kh_rc ad 6 x1)]).toArray s 0 0 A) (F0 m 52 ls []) := by
    intro x1_c52 x2_c52 x3_c52 b hA_52 n
    induction n with
    | zero => intro σ_52 y4_52 y5_52 H locs ls h9; exact absurd h9 (fun z => nomatch z)
    | succ n ih_52 =>
      intro σ_52 y4_52 y5_52 H locs ls hb_52 hw hS hl
      obtain ⟨q_52, hF, hb_52⟩ := kh_lp_ok hb_52
      have hF : f_X4_countOrdersBySets_B52 x1_c52 x2_c52 x3_c52 σ_52 y4_52 y5_52 = some q_52 := hF
      have wL110 : ∀ (ρ_110 : kh_S) (x4_110 : Int32) (x5_110 : Int32) (H : Heap) (locs : List Loc) (ls : Array Slot), f_X4_countOrdersBySets_L110 x1_c52 x2_c52 x3_c52 ρ_110 x4_110 x5_110 = some q_52 → kh_w D ca A ad ρ_110 H → va_S A s.heap H locs → kh_lv ls 7 [(0, .ref (ad 0 0)), (1, va_rf (kh_rc ad 6 x1_c52)), (2, .int x2_c52), (3, .int x3_c52), (4, .int x4_110), (5, .int x5_110)] → W p l e (headSpec wsX4_countOrdersBySets ({ frames := 3, cells := 0, slots := 0, locals := 68 } : Room)).room s m ([.ref (ad 0 0), va_rf (kh_rc ad 6 x1)]).toArray below meth c H locs 0 0 (MQ below (kh_Qi D ca A ad (f_X4_countOrdersBySets ρ x1)) ([.ref (ad 0 0), va_rf (kh_rc ad 6 x1)]).toArray s 0 0 A) (F0 m 110 ls []) := by
        intro ρ_110 x4_110 x5_110 H locs ls hF hw hS hl
        unfold f_X4_countOrdersBySets_L110 at hF
        refine kh_iinc (v := x5_110 + (1 : Int32)) (lv' := [(5, .int (x5_110 + (1 : Int32))), (0, .ref (ad 0 0)), (1, va_rf (kh_rc ad 6 x1_c52)), (2, .int x2_c52), (3, .int x3_c52), (4, .int x4_110)]) C.1 C.2.1 dX4_countOrdersBySets_110 hl (k := 5) rfl (by rfl) (by decide) rfl (fun ls hl => ?_)
        refine lv_goto (tgt := 52) C.1 C.2.1 dX4_countOrdersBySets_113 (by decide) ?_
        have e9 := Option.some.inj hF
        rcases hb_52 with ⟨a9, h8, h9⟩ | h8
        · have h7 := Sum.inl.inj (e9.trans h8)
          subst h7
          exact ih_52 _ _ _ _ _ _ h9 hw hS (kh_sub hl [1, 2, 3, 4, 5, 0] rfl)
        · exact absurd (e9.trans h8) (fun z => nomatch z)
      unfold f_X4_countOrdersBySets_B52 at hF
      refine lv_iload C.1 C.2.1 dX4_countOrdersBySets_52 (kh_at hl 5 rfl) ?_
      refine lv_iload_n C.1 C.2.1 dX4_countOrdersBySets_54 rfl (kh_at hl 3 rfl) ?_
      refine lv_icmp_ge (tgt := 116) C.1 C.2.1 dX4_countOrdersBySets_55 (by decide) (fun c_1 => ?_) (fun c_1 => ?_)
      · have hF := kh_ift hF c_1
        have e9 := Option.some.inj hF
        rcases hb_52 with ⟨a9, h8, h9⟩ | h8
        · exact absurd (e9.trans h8) (fun z => nomatch z)
        have h7 := Sum.inr.inj (e9.trans h8)
        have hF := (congrArg (f_X4_countOrdersBySets_A52 x1_c52 x2_c52 x3_c52) h7).trans hA_52
        exact wL116 σ_52 y4_52 _ _ _ hF hw hS (kh_sub hl [4] rfl)
      · have hF := kh_iff hF c_1
        refine kh_aload_n C.1 C.2.1 dX4_countOrdersBySets_58 rfl (kh_at hl 1 rfl) ?_
        obtain ⟨g_2, hF⟩ := kh_gd_ok hF
        have v_3 := kh_in_lt g_2
        have r_4 := kh_rf (ad := ad) (k := 6) g_2
        refine kh_get C hw 6 1 r_4 v_3 kh_kd6 (Cn := RX2) (T := TX2) (N := 13) rfl (Nat.le_of_ble_eq_true rfl) k_120 (kf_6_1 ad σ_52 x1_c52.toNatClampNeg) dX4_countOrdersBySets_59 ?_
        refine kh_aload_n C.1 C.2.1 dX4_countOrdersBySets_62 rfl (kh_at hl 1 rfl) ?_
        refine lv_iload C.1 C.2.1 dX4_countOrdersBySets_63 (kh_at hl 5 rfl) ?_
        obtain ⟨r_5, h_5, hF⟩ := kh_bd_ok hF
        refine kh_calli (va_runV (As := [.int y5_52]) (rest := [.int (σ_52 6 1 x1_c52.toNatClampNeg 0)]) ⟨C.1, C.2.1, C.2.2.1, C.2.2.2.1, C.2.2.2.2.1⟩ (c_X2_givenBy l D ca A ad σ_52 x1_c52.toNatClampNeg y5_52 h_5) (cwV 1 C.2.2.2.2.1 gX4_countOrdersBySets_X2_givenBy rfl rfl rfl (by decide +kernel) ⟨Nat.le_of_ble_eq_true rfl, Nat.le_of_ble_eq_true rfl⟩) (kh_preV C hw hS 6 v_3 kh_kd6 rfl) rfl rfl hl.1.1 (by show _ = _; rw [r_4]; rfl) (lv_room (kh_sum (kh_ac rfl kh_an) (Nat.le_of_ble_eq_true rfl))) dX4_countOrdersBySets_65 ⟨Nat.le_of_ble_eq_true rfl, Nat.le_of_ble_eq_true rfl⟩) hS (kh_mp h_5) (fun H locs hw hS => ?_)
        refine lv_ior C.1 C.2.1 dX4_countOrdersBySets_68 ?_
        refine kh_istore (lv' := [(6, .int ((σ_52 6 1 x1_c52.toNatClampNeg 0) ||| r_5)), (0, .ref (ad 0 0)), (1, va_rf (kh_rc ad 6 x1_c52)), (2, .int x2_c52), (3, .int x3_c52), (4, .int y4_52), (5, .int y5_52)]) C.1 C.2.1 dX4_countOrdersBySets_69 hl (by decide) rfl (fun ls hl => ?_)
        refine lv_iload C.1 C.2.1 dX4_countOrdersBySets_71 (kh_at hl 0 rfl) ?_
        refine lv_iconst (v := (0 : Int32)) C.1 C.2.1 dX4_countOrdersBySets_73 (by decide) ?_
        obtain ⟨r_6, h_6, hF⟩ := kh_bd_ok hF
        refine kh_calli (va_runS (As := [.int ((σ_52 6 1 x1_c52.toNatClampNeg 0) ||| r_5), .int (0 : Int32)]) (rest := []) ⟨C.1, C.2.1, C.2.2.1, C.2.2.2.1, C.2.2.2.2.1⟩ (c_X4_has l D ca A ad σ_52 ((σ_52 6 1 x1_c52.toNatClampNeg 0) ||| r_5) (0 : Int32) h_6) (va_cwS 2 C.2.2.2.2.1 gX4_countOrdersBySets_X4_has rfl rfl rfl (by decide +kernel) ⟨Nat.le_of_ble_eq_true rfl, Nat.le_of_ble_eq_true rfl⟩) (kh_preS C hw hS) rfl rfl hl.1.1 rfl (lv_room (kh_sum kh_an (Nat.le_of_ble_eq_true rfl))) dX4_countOrdersBySets_74 ⟨Nat.le_of_ble_eq_true rfl, Nat.le_of_ble_eq_true rfl⟩) hS (kh_mp h_6) (fun H locs hw hS => ?_)
        refine lv_if_eq (tgt := 95) C.1 C.2.1 dX4_countOrdersBySets_77 (by decide) (fun c_7 => ?_) (fun c_7 => ?_)
        · have hF := kh_ift hF c_7
          refine lv_aload_n C.1 C.2.1 dX4_countOrdersBySets_95 rfl (kh_at hl 1 rfl) ?_
          refine kh_aload_n C.1 C.2.1 dX4_countOrdersBySets_96 rfl (kh_at hl 2 rfl) ?_
          refine lv_iload C.1 C.2.1 dX4_countOrdersBySets_97 (kh_at hl 6 rfl) ?_
          refine lv_iload C.1 C.2.1 dX4_countOrdersBySets_99 (kh_at hl 0 rfl) ?_
          refine lv_iload_n C.1 C.2.1 dX4_countOrdersBySets_101 rfl (kh_at hl 3 rfl) ?_
          refine lv_iload C.1 C.2.1 dX4_countOrdersBySets_102 (kh_at hl 6 rfl) ?_
          refine lv_iconst (v := (-1 : Int32)) C.1 C.2.1 dX4_countOrdersBySets_104 (by decide) ?_
          refine lv_ixor C.1 C.2.1 dX4_countOrdersBySets_105 ?_
          refine lv_iand C.1 C.2.1 dX4_countOrdersBySets_106 ?_
          obtain ⟨ρ_8, h_8, hF⟩ := kh_bd_ok hF
          refine kh_callv (va_runV (As := [va_rf (kh_rc ad 6 x1_c52), .int y5_52, .int ((σ_52 6 1 x1_c52.toNatClampNeg 0) ||| r_5), .int (x2_c52 &&& (y5_52 ^^^ (-1 : Int32)))]) (rest := []) ⟨C.1, C.2.1, C.2.2.1, C.2.2.2.1, C.2.2.2.2.1⟩ (c_X4_addWaysBehind l D ca A ad σ_52 x1_c52 y5_52 ((σ_52 6 1 x1_c52.toNatClampNeg 0) ||| r_5) (x2_c52 &&& (y5_52 ^^^ (-1 : Int32))) h_8) (cwV 4 C.2.2.2.2.1 gX4_countOrdersBySets_X4_addWaysBehind rfl rfl rfl (by decide +kernel) ⟨Nat.le_of_ble_eq_true rfl, Nat.le_of_ble_eq_true rfl⟩) (kh_preV C hw hS 0 (kh_z0 σ_52) kh_kd0 rfl) rfl rfl hl.1.1 rfl (lv_room (kh_sum kh_an (Nat.le_of_ble_eq_true rfl))) dX4_countOrdersBySets_107 ⟨Nat.le_of_ble_eq_true rfl, Nat.le_of_ble_eq_true rfl⟩) hS h_8 (fun H locs hw hS => ?_)
          exact wL110 ρ_8 y4_52 y5_52 _ _ _ hF hw hS (kh_sub hl [1, 2, 3, 4, 5, 6] rfl)
        · have hF := kh_iff hF c_7
          refine lv_iload C.1 C.2.1 dX4_countOrdersBySets_80 (kh_at hl 5 rfl) ?_
          refine lv_aload_n C.1 C.2.1 dX4_countOrdersBySets_82 rfl (kh_at hl 1 rfl) ?_
          refine kh_get C hw 0 9 rfl (kh_z0 σ_52) kh_kd0 (Cn := RX4) (T := TX4) (N := 10) rfl (Nat.le_of_ble_eq_true rfl) k_33 (kf_0_9 ad σ_52 0) dX4_countOrdersBySets_83 ?_
          refine lv_iload C.1 C.2.1 dX4_countOrdersBySets_86 (kh_at hl 6 rfl) ?_
          obtain ⟨g_9, hF⟩ := kh_gd_ok hF
          refine kh_iald C hw 5 rfl (kh_z5 σ_52) kh_kd5 g_9 dX4_countOrdersBySets_88 ?_
          refine lv_iadd C.1 C.2.1 dX4_countOrdersBySets_89 ?_
          refine kh_istore (lv' := [(4, .int (y4_52 + (σ_52 5 0 0 y5_52.toNatClampNeg))), (6, .int ((σ_52 6 1 x1_c52.toNatClampNeg 0) ||| r_5)), (0, .ref (ad 0 0)), (1, va_rf (kh_rc ad 6 x1_c52)), (2, .int x2_c52), (3, .int x3_c52), (5, .int y5_52)]) C.1 C.2.1 dX4_countOrdersBySets_90 hl (by decide) rfl (fun ls hl => ?_)
          refine lv_goto (tgt := 110) C.1 C.2.1 dX4_countOrdersBySets_92 (by decide) ?_
          exact wL110 σ_52 (y4_52 + (σ_52 5 0 0 y5_52.toNatClampNeg)) y5_52 _ _ _ hF hw hS (kh_sub hl [2, 3, 4, 5, 0, 6] rfl)
  have wL39 : ∀ (ρ_39 : kh_S) (x1_39 : Int32) (x2_39 : Int32) (x3_39 : Int32) (H : Heap) (locs : List Loc) (ls : Array Slot), f_X4_countOrdersBySets_L39 ρ_39 x1_39 x2_39 x3_39 = some q0 → kh_w D ca A ad ρ_39 H → va_S A s.heap H locs → kh_lv ls 7 [(0, .ref (ad 0 0)), (1, va_rf (kh_rc ad 6 x1_39)), (2, .int x2_39), (3, .int x3_39)] → W p l e (headSpec wsX4_countOrdersBySets ({ frames := 3, cells := 0, slots := 0, locals := 68 } : Room)).room s m ([.ref (ad 0 0), va_rf (kh_rc ad 6 x1)]).toArray below meth c H locs 0 0 (MQ below (kh_Qi D ca A ad (f_X4_countOrdersBySets ρ x1)) ([.ref (ad 0 0), va_rf (kh_rc ad 6 x1)]).toArray s 0 0 A) (F0 m 39 ls []) := by
    intro ρ_39 x1_39 x2_39 x3_39 H locs ls hF hw hS hl
    unfold f_X4_countOrdersBySets_L39 at hF
    refine lv_aload_n C.1 C.2.1 dX4_countOrdersBySets_39 rfl (kh_at hl 0 rfl) ?_
    refine kh_get C hw 0 9 rfl (kh_z0 ρ_39) kh_kd0 (Cn := RX4) (T := TX4) (N := 10) rfl (Nat.le_of_ble_eq_true rfl) k_33 (kf_0_9 ad ρ_39 0) dX4_countOrdersBySets_40 ?_
    refine lv_iconst (v := (0 : Int32)) C.1 C.2.1 dX4_countOrdersBySets_43 (by decide) ?_
    refine lv_iconst (v := (1 : Int32)) C.1 C.2.1 dX4_countOrdersBySets_44 (by decide) ?_
    obtain ⟨g_10, hF⟩ := kh_gd_ok hF
    refine kh_iast C hw hS 5 rfl (kh_z5 ρ_39) (by decide) kh_kd5 g_10 dX4_countOrdersBySets_45 (fun H locs hw hS => ?_)
    refine lv_iconst (v := (0 : Int32)) C.1 C.2.1 dX4_countOrdersBySets_46 (by decide) ?_
    refine kh_istore (lv' := [(4, .int (0 : Int32)), (0, .ref (ad 0 0)), (1, va_rf (kh_rc ad 6 x1_39)), (2, .int x2_39), (3, .int x3_39)]) C.1 C.2.1 dX4_countOrdersBySets_47 hl (by decide) rfl (fun ls hl => ?_)
    refine lv_iconst (v := (0 : Int32)) C.1 C.2.1 dX4_countOrdersBySets_49 (by decide) ?_
    refine kh_istore (lv' := [(5, .int (0 : Int32)), (4, .int (0 : Int32)), (0, .ref (ad 0 0)), (1, va_rf (kh_rc ad 6 x1_39)), (2, .int x2_39), (3, .int x3_39)]) C.1 C.2.1 dX4_countOrdersBySets_50 hl (by decide) rfl (fun ls hl => ?_)
    obtain ⟨b_52, hb_52, hF⟩ := kh_bd_ok hF
    exact wB52 x1_39 x2_39 x3_39 b_52 hF _ (kh_up ρ_39 5 0 0 (0 : Int32).toNatClampNeg (1 : Int32)) (0 : Int32) (0 : Int32) _ _ _ hb_52 hw hS (kh_sub hl [2, 3, 4, 5, 1, 0] rfl)
  have wB19 : ∀ (x1_c19 : Int32) (x2_c19 : Int32) (x3_c19 : Int32) (b : kh_S), f_X4_countOrdersBySets_A19 x1_c19 x2_c19 x3_c19 b = some q0 → ∀ (n : Nat) (σ_19 : kh_S) (y4_19 : Int32) (H : Heap) (locs : List Loc) (ls : Array Slot), kh_lp (fun a : kh_S × Int32 => f_X4_countOrdersBySets_B19 x1_c19 x2_c19 x3_c19 a.1 a.2) n (σ_19, y4_19) = some b → kh_w D ca A ad σ_19 H → va_S A s.heap H locs → kh_lv ls 7 [(0, .ref (ad 0 0)), (1, va_rf (kh_rc ad 6 x1_c19)), (2, .int x2_c19), (3, .int x3_c19), (4, .int y4_19)] → W p l e (headSpec wsX4_countOrdersBySets ({ frames := 3, cells := 0, slots := 0, locals := 68 } : Room)).room s m ([.ref (ad 0 0), va_rf (kh_rc ad 6 x1)]).toArray below meth c H locs 0 0 (MQ below (kh_Qi D ca A ad (f_X4_countOrdersBySets ρ x1)) ([.ref (ad 0 0), va_rf (kh_rc ad 6 x1)]).toArray s 0 0 A) (F0 m 19 ls []) := by
    intro x1_c19 x2_c19 x3_c19 b hA_19 n
    induction n with
    | zero => intro σ_19 y4_19 H locs ls h9; exact absurd h9 (fun z => nomatch z)
    | succ n ih_19 =>
      intro σ_19 y4_19 H locs ls hb_19 hw hS hl
      obtain ⟨q_19, hF, hb_19⟩ := kh_lp_ok hb_19
      have hF : f_X4_countOrdersBySets_B19 x1_c19 x2_c19 x3_c19 σ_19 y4_19 = some q_19 := hF
      unfold f_X4_countOrdersBySets_B19 at hF
      refine lv_iload C.1 C.2.1 dX4_countOrdersBySets_19 (kh_at hl 4 rfl) ?_
      refine lv_iload_n C.1 C.2.1 dX4_countOrdersBySets_21 rfl (kh_at hl 3 rfl) ?_
      refine lv_icmp_ge (tgt := 39) C.1 C.2.1 dX4_countOrdersBySets_22 (by decide) (fun c_11 => ?_) (fun c_11 => ?_)
      · have hF := kh_ift hF c_11
        have e9 := Option.some.inj hF
        rcases hb_19 with ⟨a9, h8, h9⟩ | h8
        · exact absurd (e9.trans h8) (fun z => nomatch z)
        have h7 := Sum.inr.inj (e9.trans h8)
        have hF := (congrArg (f_X4_countOrdersBySets_A19 x1_c19 x2_c19 x3_c19) h7).trans hA_19
        exact wL39 σ_19 x1_c19 x2_c19 x3_c19 _ _ _ hF hw hS (kh_sub hl [0, 1, 2, 3] rfl)
      · have hF := kh_iff hF c_11
        refine lv_aload_n C.1 C.2.1 dX4_countOrdersBySets_25 rfl (kh_at hl 0 rfl) ?_
        refine kh_get C hw 0 9 rfl (kh_z0 σ_19) kh_kd0 (Cn := RX4) (T := TX4) (N := 10) rfl (Nat.le_of_ble_eq_true rfl) k_33 (kf_0_9 ad σ_19 0) dX4_countOrdersBySets_26 ?_
        refine lv_iload C.1 C.2.1 dX4_countOrdersBySets_29 (kh_at hl 4 rfl) ?_
        refine lv_iconst (v := (0 : Int32)) C.1 C.2.1 dX4_countOrdersBySets_31 (by decide) ?_
        obtain ⟨g_12, hF⟩ := kh_gd_ok hF
        refine kh_iast C hw hS 5 rfl (kh_z5 σ_19) (by decide) kh_kd5 g_12 dX4_countOrdersBySets_32 (fun H locs hw hS => ?_)
        refine kh_iinc (v := y4_19 + (1 : Int32)) (lv' := [(4, .int (y4_19 + (1 : Int32))), (0, .ref (ad 0 0)), (1, va_rf (kh_rc ad 6 x1_c19)), (2, .int x2_c19), (3, .int x3_c19)]) C.1 C.2.1 dX4_countOrdersBySets_33 hl (k := 4) rfl (by rfl) (by decide) rfl (fun ls hl => ?_)
        refine lv_goto (tgt := 19) C.1 C.2.1 dX4_countOrdersBySets_36 (by decide) ?_
        have e9 := Option.some.inj hF
        rcases hb_19 with ⟨a9, h8, h9⟩ | h8
        · have h7 := Sum.inl.inj (e9.trans h8)
          subst h7
          exact ih_19 _ _ _ _ _ h9 hw hS (kh_sub hl [1, 2, 3, 4, 0] rfl)
        · exact absurd (e9.trans h8) (fun z => nomatch z)
  refine kh_aload_n C.1 C.2.1 dX4_countOrdersBySets_0 rfl (kh_at hl 1 rfl) ?_
  refine lv_aload_n C.1 C.2.1 dX4_countOrdersBySets_1 rfl (kh_at hl 0 rfl) ?_
  refine kh_get C hw 0 7 rfl (kh_z0 ρ) kh_kd0 (Cn := RX4) (T := TX4) (N := 10) rfl (Nat.le_of_ble_eq_true rfl) k_91 (kf_0_7 ad ρ 0) dX4_countOrdersBySets_2 ?_
  obtain ⟨g_13, hF⟩ := kh_gd_ok hF
  have v_14 := kh_in_lt g_13
  have r_15 := kh_rf (ad := ad) (k := 6) g_13
  obtain ⟨r_16, h_16, hF⟩ := kh_bd_ok hF
  refine kh_calli (va_runV (As := [.int (ρ 0 7 0 0)]) (rest := []) ⟨C.1, C.2.1, C.2.2.1, C.2.2.2.1, C.2.2.2.2.1⟩ (c_X2_working l D ca A ad ρ x1.toNatClampNeg (ρ 0 7 0 0) h_16) (cwV 1 C.2.2.2.2.1 gX4_countOrdersBySets_X2_working rfl rfl rfl (by decide +kernel) ⟨Nat.le_of_ble_eq_true rfl, Nat.le_of_ble_eq_true rfl⟩) (kh_preV C hw hS 6 v_14 kh_kd6 rfl) rfl rfl hl.1.1 (by show _ = _; rw [r_15]; rfl) (lv_room (kh_sum kh_an (Nat.le_of_ble_eq_true rfl))) dX4_countOrdersBySets_5 ⟨Nat.le_of_ble_eq_true rfl, Nat.le_of_ble_eq_true rfl⟩) hS (kh_mp h_16) (fun H locs hw hS => ?_)
  refine kh_istore_n (lv' := [(2, .int r_16), (0, .ref (ad 0 0)), (1, va_rf (kh_rc ad 6 x1))]) C.1 C.2.1 dX4_countOrdersBySets_8 rfl hl (by decide) rfl (fun ls hl => ?_)
  refine lv_iconst (v := (1 : Int32)) C.1 C.2.1 dX4_countOrdersBySets_9 (by decide) ?_
  refine kh_aload_n C.1 C.2.1 dX4_countOrdersBySets_10 rfl (kh_at hl 2 rfl) ?_
  refine kh_get C hw 6 6 r_15 v_14 kh_kd6 (Cn := RX2) (T := TX2) (N := 13) rfl (Nat.le_of_ble_eq_true rfl) k_80 (kf_6_6 ad ρ x1.toNatClampNeg) dX4_countOrdersBySets_11 ?_
  refine lv_ishl C.1 C.2.1 dX4_countOrdersBySets_14 ?_
  refine kh_istore_n (lv' := [(3, .int ((1 : Int32) <<< ((ρ 6 6 x1.toNatClampNeg 0) &&& 31))), (2, .int r_16), (0, .ref (ad 0 0)), (1, va_rf (kh_rc ad 6 x1))]) C.1 C.2.1 dX4_countOrdersBySets_15 rfl hl (by decide) rfl (fun ls hl => ?_)
  refine lv_iconst (v := (0 : Int32)) C.1 C.2.1 dX4_countOrdersBySets_16 (by decide) ?_
  refine kh_istore (lv' := [(4, .int (0 : Int32)), (3, .int ((1 : Int32) <<< ((ρ 6 6 x1.toNatClampNeg 0) &&& 31))), (2, .int r_16), (0, .ref (ad 0 0)), (1, va_rf (kh_rc ad 6 x1))]) C.1 C.2.1 dX4_countOrdersBySets_17 hl (by decide) rfl (fun ls hl => ?_)
  obtain ⟨b_19, hb_19, hF⟩ := kh_bd_ok hF
  exact wB19 x1 r_16 ((1 : Int32) <<< ((ρ 6 6 x1.toNatClampNeg 0) &&& 31)) b_19 hF _ ρ (0 : Int32) _ _ _ hb_19 hw hS (kh_sub hl [3, 4, 2, 1, 0] rfl)

def f_X4_openTo (ρ : kh_S) (x1 : Int32) : Option (Int32) := kh_gd (kh_in x1 (kh_n ρ 11)) (kh_gd (kh_in (ρ 11 1 x1.toNatClampNeg 0) (kh_n ρ 6)) (kh_bd (f_X2_working ρ ((ρ 11 1 x1.toNatClampNeg 0).toNatClampNeg) (ρ 0 7 0 0)) (fun r_7 => some (r_7 &&& ((ρ 11 7 x1.toNatClampNeg 0) ^^^ (-1 : Int32))))))
set_option maxHeartbeats 4000000 in
set_option maxRecDepth 100000 in
theorem c_X4_openTo (l : Launch) (D : va_G) (ca : Nat → ClassId) (A : Nat → Prop) (ad : Nat → Nat → Nat) (ρ : kh_S) (x1 : Int32) {q0 : Int32} (hF0 : f_X4_openTo ρ x1 = some q0) : Met l yX4_openTo wsX4_openTo ({ frames := 2, cells := 0, slots := 0, locals := 44 } : Room) (va_Pc [.ref (ad 0 0), va_rf (kh_rc ad 11 x1)] (kh_I D ca A ad ρ)) (kh_Qi D ca A ad (kh_pu (f_X4_openTo ρ x1) ρ)) 0 0 A := by
  refine Met.ofW (cc := cX4_openTo) (maxL := 2) (ret := (some .int)) (by decide) rfl ?_
  intro p e s m args below meth c s₁ B hml hv
  obtain ⟨rfl, hK, hw, hA⟩ := hv
  have C : kh_C p s m ([.ref (ad 0 0), va_rf (kh_rc ad 11 x1)]).toArray c cX4_openTo 2 RX4 wsX4_openTo D ca A := ⟨B.exec, B.bytes, hml, findClass_of_methodNamed B.named, atoms_spec (ws := wsX4_openTo) B.pre, hK, hA⟩
  have hr := B.returns
  have hlocks := B.notSynchronized
  have hS : va_S A s.heap s.heap [] := va_S.rf
  have hl := kh_entry ([.ref (ad 0 0), va_rf (kh_rc ad 11 x1)]) (n := 2) (kh_ac rfl (kh_ac (kh_c1 _) kh_an)) (Nat.le_of_ble_eq_true rfl)
  rw [lg_entry_eq]
  generalize (lg_sl ([.ref (ad 0 0), va_rf (kh_rc ad 11 x1)]) ++ List.replicate (2 - (lg_sl ([.ref (ad 0 0), va_rf (kh_rc ad 11 x1)])).length) Slot.unset).toArray = ls at hl ⊢
  have hl : kh_lv ls 2 [(0, .ref (ad 0 0)), (1, va_rf (kh_rc ad 11 x1))] := hl
  have k_155 := C.2.2.2.2.1 (.fieldLink RX4 155 "KeylessHall$Group" "place" "LKeylessHall$Room;") (by decide +kernel)
  have k_91 := C.2.2.2.2.1 (.fieldLink RX4 91 "KeylessHall" "brokenProps" "I") (by decide +kernel)
  have k_174 := C.2.2.2.2.1 (.fieldLink RX4 174 "KeylessHall$Group" "solved" "I") (by decide +kernel)
  have hF := hF0
  unfold f_X4_openTo at hF
  refine kh_aload_n C.1 C.2.1 dX4_openTo_0 rfl (kh_at hl 1 rfl) ?_
  obtain ⟨g_1, hF⟩ := kh_gd_ok hF
  have v_2 := kh_in_lt g_1
  have r_3 := kh_rf (ad := ad) (k := 11) g_1
  refine kh_get C hw 11 1 r_3 v_2 kh_kd11 (Cn := RX1) (T := TX1) (N := 9) rfl (Nat.le_of_ble_eq_true rfl) k_155 (kf_11_1 ad ρ x1.toNatClampNeg) dX4_openTo_1 ?_
  refine lv_aload_n C.1 C.2.1 dX4_openTo_4 rfl (kh_at hl 0 rfl) ?_
  refine kh_get C hw 0 7 rfl (kh_z0 ρ) kh_kd0 (Cn := RX4) (T := TX4) (N := 10) rfl (Nat.le_of_ble_eq_true rfl) k_91 (kf_0_7 ad ρ 0) dX4_openTo_5 ?_
  obtain ⟨g_4, hF⟩ := kh_gd_ok hF
  have v_5 := kh_in_lt g_4
  have r_6 := kh_rf (ad := ad) (k := 6) g_4
  obtain ⟨r_7, h_7, hF⟩ := kh_bd_ok hF
  refine kh_calli (va_runV (As := [.int (ρ 0 7 0 0)]) (rest := []) ⟨C.1, C.2.1, C.2.2.1, C.2.2.2.1, C.2.2.2.2.1⟩ (c_X2_working l D ca A ad ρ ((ρ 11 1 x1.toNatClampNeg 0).toNatClampNeg) (ρ 0 7 0 0) h_7) (cwV 1 C.2.2.2.2.1 gX4_openTo_X2_working rfl rfl rfl (by decide +kernel) ⟨Nat.le_of_ble_eq_true rfl, Nat.le_of_ble_eq_true rfl⟩) (kh_preV C hw hS 6 v_5 kh_kd6 rfl) rfl rfl hl.1.1 (by show _ = _; rw [r_6]; rfl) (lv_room (kh_sum kh_an (Nat.le_of_ble_eq_true rfl))) dX4_openTo_8 ⟨Nat.le_of_ble_eq_true rfl, Nat.le_of_ble_eq_true rfl⟩) hS (kh_mp h_7) (fun H locs hw hS => ?_)
  refine kh_aload_n C.1 C.2.1 dX4_openTo_11 rfl (kh_at hl 1 rfl) ?_
  refine kh_get C hw 11 7 r_3 v_2 kh_kd11 (Cn := RX1) (T := TX1) (N := 9) rfl (Nat.le_of_ble_eq_true rfl) k_174 (kf_11_7 ad ρ x1.toNatClampNeg) dX4_openTo_12 ?_
  refine lv_iconst (v := (-1 : Int32)) C.1 C.2.1 dX4_openTo_15 (by decide) ?_
  refine lv_ixor C.1 C.2.1 dX4_openTo_16 ?_
  refine lv_iand C.1 C.2.1 dX4_openTo_17 ?_
  exact W.iret (v := r_7 &&& ((ρ 11 7 x1.toNatClampNeg 0) ^^^ (-1 : Int32))) C.1 C.2.1 hr (fun t ht hW => ⟨⟨r_7 &&& ((ρ 11 7 x1.toNatClampNeg 0) ^^^ (-1 : Int32)), ρ, rfl, kh_mp (hF0.trans hF.symm), kh_bk ht hw⟩, hS.F ht⟩) hS.2.2 dX4_openTo_18

def f_X4_wayOf_L83 (ρ : kh_S) (x4_83 : Int32) : Option (Int32) := some x4_83
def f_X4_wayOf_L77 (ρ : kh_S) (x1_c21 : Int32) (x2_c21 : Int32) (x3_c21 : Int32) (x4_77 : Int32) (x5_77 : Int32) (x6_77 : Int32) : Option ((Int32 × Int32 × Int32) ⊕ (Int32)) := some (.inl (x4_77, x5_77, x6_77 + (1 : Int32)))
def f_X4_wayOf_B21 (ρ : kh_S) (x1_c21 : Int32) (x2_c21 : Int32) (x3_c21 : Int32) (y4_21 : Int32) (y5_21 : Int32) (y6_21 : Int32) : Option ((Int32 × Int32 × Int32) ⊕ (Int32)) := if (256 : Int32) ≤ y6_21 then some (.inr y4_21) else kh_bd (f_J6_bitCount_0f7a4 ρ y6_21) (fun r_2 => if y5_21 ≤ r_2 then f_X4_wayOf_L77 ρ x1_c21 x2_c21 x3_c21 y4_21 y5_21 y6_21 else kh_bd (f_X4_isWithin ρ y6_21 x3_c21) (fun r_4 => if r_4 = 0 then f_X4_wayOf_L77 ρ x1_c21 x2_c21 x3_c21 y4_21 y5_21 y6_21 else kh_gd (kh_in x1_c21 (kh_n ρ 11)) (kh_gd (kh_in x2_c21 (kh_n ρ 6)) (kh_bd (f_X2_reach ρ x2_c21.toNatClampNeg (ρ 11 8 x1_c21.toNatClampNeg 0) y6_21) (fun r_12 => kh_bd (f_X4_has ρ r_12 (0 : Int32)) (fun r_13 => if r_13 = 0 then f_X4_wayOf_L77 ρ x1_c21 x2_c21 x3_c21 y4_21 y5_21 y6_21 else f_X4_wayOf_L77 ρ x1_c21 x2_c21 x3_c21 y6_21 r_2 y6_21))))))
def f_X4_wayOf_A21 (ρ : kh_S) (x1_c21 : Int32) (x2_c21 : Int32) (x3_c21 : Int32) : (Int32) → Option (Int32) := (fun u : Int32 => f_X4_wayOf_L83 ρ u)
def f_X4_wayOf (ρ : kh_S) (x1 : Int32) : Option (Int32) := kh_gd (kh_in x1 (kh_n ρ 11)) (kh_bd (f_X4_openTo ρ x1) (fun r_18 => kh_bd (kh_lp (fun a : Int32 × Int32 × Int32 => f_X4_wayOf_B21 ρ x1 (ρ 11 1 x1.toNatClampNeg 0) r_18 a.1 a.2.1 a.2.2) 9999 ((0 : Int32), (9 : Int32), (1 : Int32))) (f_X4_wayOf_A21 ρ x1 (ρ 11 1 x1.toNatClampNeg 0) r_18)))
set_option maxHeartbeats 4000000 in
set_option maxRecDepth 100000 in
theorem c_X4_wayOf (l : Launch) (D : va_G) (ca : Nat → ClassId) (A : Nat → Prop) (ad : Nat → Nat → Nat) (ρ : kh_S) (x1 : Int32) {q0 : Int32} (hF0 : f_X4_wayOf ρ x1 = some q0) : Met l yX4_wayOf wsX4_wayOf ({ frames := 3, cells := 0, slots := 0, locals := 68 } : Room) (va_Pc [.ref (ad 0 0), va_rf (kh_rc ad 11 x1)] (kh_I D ca A ad ρ)) (kh_Qi D ca A ad (kh_pu (f_X4_wayOf ρ x1) ρ)) 0 0 A := by
  refine Met.ofW (cc := cX4_wayOf) (maxL := 8) (ret := (some .int)) (by decide) rfl ?_
  intro p e s m args below meth c s₁ B hml hv
  obtain ⟨rfl, hK, hw, hA⟩ := hv
  have C : kh_C p s m ([.ref (ad 0 0), va_rf (kh_rc ad 11 x1)]).toArray c cX4_wayOf 8 RX4 wsX4_wayOf D ca A := ⟨B.exec, B.bytes, hml, findClass_of_methodNamed B.named, atoms_spec (ws := wsX4_wayOf) B.pre, hK, hA⟩
  have hr := B.returns
  have hlocks := B.notSynchronized
  have hS : va_S A s.heap s.heap [] := va_S.rf
  have hl := kh_entry ([.ref (ad 0 0), va_rf (kh_rc ad 11 x1)]) (n := 8) (kh_ac rfl (kh_ac (kh_c1 _) kh_an)) (Nat.le_of_ble_eq_true rfl)
  rw [lg_entry_eq]
  generalize (lg_sl ([.ref (ad 0 0), va_rf (kh_rc ad 11 x1)]) ++ List.replicate (8 - (lg_sl ([.ref (ad 0 0), va_rf (kh_rc ad 11 x1)])).length) Slot.unset).toArray = ls at hl ⊢
  have hl : kh_lv ls 8 [(0, .ref (ad 0 0)), (1, va_rf (kh_rc ad 11 x1))] := hl
  have k_166 := C.2.2.2.2.1 (.fieldLink RX4 166 "KeylessHall$Group" "held" "I") (by decide +kernel)
  have k_155 := C.2.2.2.2.1 (.fieldLink RX4 155 "KeylessHall$Group" "place" "LKeylessHall$Room;") (by decide +kernel)
  have hF := hF0
  unfold f_X4_wayOf at hF
  have wL83 : ∀ (x4_83 : Int32) (H : Heap) (locs : List Loc) (ls : Array Slot), f_X4_wayOf_L83 ρ x4_83 = some q0 → kh_w D ca A ad ρ H → va_S A s.heap H locs → kh_lv ls 8 [(4, .int x4_83)] → W p l e (headSpec wsX4_wayOf ({ frames := 3, cells := 0, slots := 0, locals := 68 } : Room)).room s m ([.ref (ad 0 0), va_rf (kh_rc ad 11 x1)]).toArray below meth c H locs 0 0 (MQ below (kh_Qi D ca A ad (kh_pu (f_X4_wayOf ρ x1) ρ)) ([.ref (ad 0 0), va_rf (kh_rc ad 11 x1)]).toArray s 0 0 A) (F0 m 83 ls []) := by
    intro x4_83 H locs ls hF hw hS hl
    unfold f_X4_wayOf_L83 at hF
    refine lv_iload C.1 C.2.1 dX4_wayOf_83 (kh_at hl 0 rfl) ?_
    exact W.iret (v := x4_83) C.1 C.2.1 hr (fun t ht hW => ⟨⟨x4_83, ρ, rfl, kh_mp (hF0.trans hF.symm), kh_bk ht hw⟩, hS.F ht⟩) hS.2.2 dX4_wayOf_85
  have wB21 : ∀ (x1_c21 : Int32) (x2_c21 : Int32) (x3_c21 : Int32) (b : Int32), f_X4_wayOf_A21 ρ x1_c21 x2_c21 x3_c21 b = some q0 → ∀ (n : Nat) (y4_21 : Int32) (y5_21 : Int32) (y6_21 : Int32) (H : Heap) (locs : List Loc) (ls : Array Slot), kh_lp (fun a : Int32 × Int32 × Int32 => f_X4_wayOf_B21 ρ x1_c21 x2_c21 x3_c21 a.1 a.2.1 a.2.2) n (y4_21, y5_21, y6_21) = some b → kh_w D ca A ad ρ H → va_S A s.heap H locs → kh_lv ls 8 [(1, va_rf (kh_rc ad 11 x1_c21)), (2, va_rf (kh_rc ad 6 x2_c21)), (3, .int x3_c21), (4, .int y4_21), (5, .int y5_21), (6, .int y6_21)] → W p l e (headSpec wsX4_wayOf ({ frames := 3, cells := 0, slots := 0, locals := 68 } : Room)).room s m ([.ref (ad 0 0), va_rf (kh_rc ad 11 x1)]).toArray below meth c H locs 0 0 (MQ below (kh_Qi D ca A ad (kh_pu (f_X4_wayOf ρ x1) ρ)) ([.ref (ad 0 0), va_rf (kh_rc ad 11 x1)]).toArray s 0 0 A) (F0 m 21 ls []) := by
    intro x1_c21 x2_c21 x3_c21 b hA_21 n
    induction n with
    | zero => intro y4_21 y5_21 y6_21 H locs ls h9; exact absurd h9 (fun z => nomatch z)
    | succ n ih_21 =>
      intro y4_21 y5_21 y6_21 H locs ls hb_21 hw hS hl
      obtain ⟨q_21, hF, hb_21⟩ := kh_lp_ok hb_21
      have hF : f_X4_wayOf_B21 ρ x1_c21 x2_c21 x3_c21 y4_21 y5_21 y6_21 = some q_21 := hF
      have wL77 : ∀ (x4_77 : Int32) (x5_77 : Int32) (x6_77 : Int32) (H : Heap) (locs : List Loc) (ls : Array Slot), f_X4_wayOf_L77 ρ x1_c21 x2_c21 x3_c21 x4_77 x5_77 x6_77 = some q_21 → kh_w D ca A ad ρ H → va_S A s.heap H locs → kh_lv ls 8 [(1, va_rf (kh_rc ad 11 x1_c21)), (2, va_rf (kh_rc ad 6 x2_c21)), (3, .int x3_c21), (4, .int x4_77), (5, .int x5_77), (6, .int x6_77)] → W p l e (headSpec wsX4_wayOf ({ frames := 3, cells := 0, slots := 0, locals := 68 } : Room)).room s m ([.ref (ad 0 0), va_rf (kh_rc ad 11 x1)]).toArray below meth c H locs 0 0 (MQ below (kh_Qi D ca A ad (kh_pu (f_X4_wayOf ρ x1) ρ)) ([.ref (ad 0 0), va_rf (kh_rc ad 11 x1)]).toArray s 0 0 A) (F0 m 77 ls []) := by
        intro x4_77 x5_77 x6_77 H locs ls hF hw hS hl
        unfold f_X4_wayOf_L77 at hF
        refine kh_iinc (v := x6_77 + (1 : Int32)) (lv' := [(6, .int (x6_77 + (1 : Int32))), (1, va_rf (kh_rc ad 11 x1_c21)), (2, va_rf (kh_rc ad 6 x2_c21)), (3, .int x3_c21), (4, .int x4_77), (5, .int x5_77)]) C.1 C.2.1 dX4_wayOf_77 hl (k := 5) rfl (by rfl) (by decide) rfl (fun ls hl => ?_)
        refine lv_goto (tgt := 21) C.1 C.2.1 dX4_wayOf_80 (by decide) ?_
        have e9 := Option.some.inj hF
        rcases hb_21 with ⟨a9, h8, h9⟩ | h8
        · have h7 := Sum.inl.inj (e9.trans h8)
          subst h7
          exact ih_21 _ _ _ _ _ _ h9 hw hS (kh_sub hl [1, 2, 3, 4, 5, 0] rfl)
        · exact absurd (e9.trans h8) (fun z => nomatch z)
      unfold f_X4_wayOf_B21 at hF
      refine lv_iload C.1 C.2.1 dX4_wayOf_21 (kh_at hl 5 rfl) ?_
      refine lv_sipush (v := (256 : Int32)) C.1 C.2.1 dX4_wayOf_23 (by decide) ?_
      refine lv_icmp_ge (tgt := 83) C.1 C.2.1 dX4_wayOf_26 (by decide) (fun c_1 => ?_) (fun c_1 => ?_)
      · have hF := kh_ift hF c_1
        have e9 := Option.some.inj hF
        rcases hb_21 with ⟨a9, h8, h9⟩ | h8
        · exact absurd (e9.trans h8) (fun z => nomatch z)
        have h7 := Sum.inr.inj (e9.trans h8)
        have hF := (congrArg (f_X4_wayOf_A21 ρ x1_c21 x2_c21 x3_c21) h7).trans hA_21
        exact wL83 y4_21 _ _ _ hF hw hS (kh_sub hl [3] rfl)
      · have hF := kh_iff hF c_1
        refine lv_iload C.1 C.2.1 dX4_wayOf_29 (kh_at hl 5 rfl) ?_
        obtain ⟨r_2, h_2, hF⟩ := kh_bd_ok hF
        refine kh_calli (va_runS (As := [.int y6_21]) (rest := []) ⟨C.1, C.2.1, C.2.2.1, C.2.2.2.1, C.2.2.2.2.1⟩ (c_J6_bitCount_0f7a4 l D ca A ad ρ y6_21 h_2) (va_cwS 1 C.2.2.2.2.1 gX4_wayOf_J6_bitCount_0f7a4 rfl rfl rfl (by decide +kernel) ⟨Nat.le_of_ble_eq_true rfl, Nat.le_of_ble_eq_true rfl⟩) (kh_preS C hw hS) rfl rfl hl.1.1 rfl (lv_room (kh_sum kh_an (Nat.le_of_ble_eq_true rfl))) dX4_wayOf_31 ⟨Nat.le_of_ble_eq_true rfl, Nat.le_of_ble_eq_true rfl⟩) hS (kh_mp h_2) (fun H locs hw hS => ?_)
        refine kh_istore (lv' := [(7, .int r_2), (1, va_rf (kh_rc ad 11 x1_c21)), (2, va_rf (kh_rc ad 6 x2_c21)), (3, .int x3_c21), (4, .int y4_21), (5, .int y5_21), (6, .int y6_21)]) C.1 C.2.1 dX4_wayOf_34 hl (by decide) rfl (fun ls hl => ?_)
        refine lv_iload C.1 C.2.1 dX4_wayOf_36 (kh_at hl 0 rfl) ?_
        refine lv_iload C.1 C.2.1 dX4_wayOf_38 (kh_at hl 5 rfl) ?_
        refine lv_icmp_ge (tgt := 77) C.1 C.2.1 dX4_wayOf_40 (by decide) (fun c_3 => ?_) (fun c_3 => ?_)
        · have hF := kh_ift hF c_3
          exact wL77 y4_21 y5_21 y6_21 _ _ _ hF hw hS (kh_sub hl [1, 2, 3, 4, 5, 6] rfl)
        · have hF := kh_iff hF c_3
          refine lv_iload C.1 C.2.1 dX4_wayOf_43 (kh_at hl 6 rfl) ?_
          refine lv_iload_n C.1 C.2.1 dX4_wayOf_45 rfl (kh_at hl 3 rfl) ?_
          obtain ⟨r_4, h_4, hF⟩ := kh_bd_ok hF
          refine kh_calli (va_runS (As := [.int y6_21, .int x3_c21]) (rest := []) ⟨C.1, C.2.1, C.2.2.1, C.2.2.2.1, C.2.2.2.2.1⟩ (c_X4_isWithin l D ca A ad ρ y6_21 x3_c21 h_4) (va_cwS 2 C.2.2.2.2.1 gX4_wayOf_X4_isWithin rfl rfl rfl (by decide +kernel) ⟨Nat.le_of_ble_eq_true rfl, Nat.le_of_ble_eq_true rfl⟩) (kh_preS C hw hS) rfl rfl hl.1.1 rfl (lv_room (kh_sum kh_an (Nat.le_of_ble_eq_true rfl))) dX4_wayOf_46 ⟨Nat.le_of_ble_eq_true rfl, Nat.le_of_ble_eq_true rfl⟩) hS (kh_mp h_4) (fun H locs hw hS => ?_)
          refine lv_if_eq (tgt := 77) C.1 C.2.1 dX4_wayOf_49 (by decide) (fun c_5 => ?_) (fun c_5 => ?_)
          · have hF := kh_ift hF c_5
            exact wL77 y4_21 y5_21 y6_21 _ _ _ hF hw hS (kh_sub hl [1, 2, 3, 4, 5, 6] rfl)
          · have hF := kh_iff hF c_5
            refine kh_aload_n C.1 C.2.1 dX4_wayOf_52 rfl (kh_at hl 2 rfl) ?_
            refine kh_aload_n C.1 C.2.1 dX4_wayOf_53 rfl (kh_at hl 1 rfl) ?_
            obtain ⟨g_6, hF⟩ := kh_gd_ok hF
            have v_7 := kh_in_lt g_6
            have r_8 := kh_rf (ad := ad) (k := 11) g_6
            refine kh_get C hw 11 8 r_8 v_7 kh_kd11 (Cn := RX1) (T := TX1) (N := 9) rfl (Nat.le_of_ble_eq_true rfl) k_166 (kf_11_8 ad ρ x1_c21.toNatClampNeg) dX4_wayOf_54 ?_
            refine lv_iload C.1 C.2.1 dX4_wayOf_57 (kh_at hl 6 rfl) ?_
            obtain ⟨g_9, hF⟩ := kh_gd_ok hF
            have v_10 := kh_in_lt g_9
            have r_11 := kh_rf (ad := ad) (k := 6) g_9
            obtain ⟨r_12, h_12, hF⟩ := kh_bd_ok hF
            refine kh_calli (va_runV (As := [.int (ρ 11 8 x1_c21.toNatClampNeg 0), .int y6_21]) (rest := []) ⟨C.1, C.2.1, C.2.2.1, C.2.2.2.1, C.2.2.2.2.1⟩ (c_X2_reach l D ca A ad ρ x2_c21.toNatClampNeg (ρ 11 8 x1_c21.toNatClampNeg 0) y6_21 h_12) (cwV 2 C.2.2.2.2.1 gX4_wayOf_X2_reach rfl rfl rfl (by decide +kernel) ⟨Nat.le_of_ble_eq_true rfl, Nat.le_of_ble_eq_true rfl⟩) (kh_preV C hw hS 6 v_10 kh_kd6 rfl) rfl rfl hl.1.1 (by show _ = _; rw [r_11]; rfl) (lv_room (kh_sum kh_an (Nat.le_of_ble_eq_true rfl))) dX4_wayOf_59 ⟨Nat.le_of_ble_eq_true rfl, Nat.le_of_ble_eq_true rfl⟩) hS (kh_mp h_12) (fun H locs hw hS => ?_)
            refine lv_iconst (v := (0 : Int32)) C.1 C.2.1 dX4_wayOf_62 (by decide) ?_
            obtain ⟨r_13, h_13, hF⟩ := kh_bd_ok hF
            refine kh_calli (va_runS (As := [.int r_12, .int (0 : Int32)]) (rest := []) ⟨C.1, C.2.1, C.2.2.1, C.2.2.2.1, C.2.2.2.2.1⟩ (c_X4_has l D ca A ad ρ r_12 (0 : Int32) h_13) (va_cwS 2 C.2.2.2.2.1 gX4_wayOf_X4_has rfl rfl rfl (by decide +kernel) ⟨Nat.le_of_ble_eq_true rfl, Nat.le_of_ble_eq_true rfl⟩) (kh_preS C hw hS) rfl rfl hl.1.1 rfl (lv_room (kh_sum kh_an (Nat.le_of_ble_eq_true rfl))) dX4_wayOf_63 ⟨Nat.le_of_ble_eq_true rfl, Nat.le_of_ble_eq_true rfl⟩) hS (kh_mp h_13) (fun H locs hw hS => ?_)
            refine lv_if_eq (tgt := 77) C.1 C.2.1 dX4_wayOf_66 (by decide) (fun c_14 => ?_) (fun c_14 => ?_)
            · have hF := kh_ift hF c_14
              exact wL77 y4_21 y5_21 y6_21 _ _ _ hF hw hS (kh_sub hl [1, 2, 3, 4, 5, 6] rfl)
            · have hF := kh_iff hF c_14
              refine lv_iload C.1 C.2.1 dX4_wayOf_69 (kh_at hl 6 rfl) ?_
              refine kh_istore (lv' := [(4, .int y6_21), (7, .int r_2), (1, va_rf (kh_rc ad 11 x1_c21)), (2, va_rf (kh_rc ad 6 x2_c21)), (3, .int x3_c21), (5, .int y5_21), (6, .int y6_21)]) C.1 C.2.1 dX4_wayOf_71 hl (by decide) rfl (fun ls hl => ?_)
              refine lv_iload C.1 C.2.1 dX4_wayOf_73 (kh_at hl 1 rfl) ?_
              refine kh_istore (lv' := [(5, .int r_2), (4, .int y6_21), (7, .int r_2), (1, va_rf (kh_rc ad 11 x1_c21)), (2, va_rf (kh_rc ad 6 x2_c21)), (3, .int x3_c21), (6, .int y6_21)]) C.1 C.2.1 dX4_wayOf_75 hl (by decide) rfl (fun ls hl => ?_)
              exact wL77 y6_21 r_2 y6_21 _ _ _ hF hw hS (kh_sub hl [3, 4, 5, 1, 0, 6] rfl)
  refine kh_aload_n C.1 C.2.1 dX4_wayOf_0 rfl (kh_at hl 1 rfl) ?_
  obtain ⟨g_15, hF⟩ := kh_gd_ok hF
  have v_16 := kh_in_lt g_15
  have r_17 := kh_rf (ad := ad) (k := 11) g_15
  refine kh_get C hw 11 1 r_17 v_16 kh_kd11 (Cn := RX1) (T := TX1) (N := 9) rfl (Nat.le_of_ble_eq_true rfl) k_155 (kf_11_1 ad ρ x1.toNatClampNeg) dX4_wayOf_1 ?_
  refine kh_astore_n (lv' := [(2, va_rf (kh_rc ad 6 (ρ 11 1 x1.toNatClampNeg 0))), (0, .ref (ad 0 0)), (1, va_rf (kh_rc ad 11 x1))]) C.1 C.2.1 dX4_wayOf_4 rfl hl (by decide) rfl (fun ls hl => ?_)
  refine lv_aload_n C.1 C.2.1 dX4_wayOf_5 rfl (kh_at hl 1 rfl) ?_
  refine kh_aload_n C.1 C.2.1 dX4_wayOf_6 rfl (kh_at hl 2 rfl) ?_
  obtain ⟨r_18, h_18, hF⟩ := kh_bd_ok hF
  refine kh_calli (va_runV (As := [va_rf (kh_rc ad 11 x1)]) (rest := []) ⟨C.1, C.2.1, C.2.2.1, C.2.2.2.1, C.2.2.2.2.1⟩ (c_X4_openTo l D ca A ad ρ x1 h_18) (cwV 1 C.2.2.2.2.1 gX4_wayOf_X4_openTo rfl rfl rfl (by decide +kernel) ⟨Nat.le_of_ble_eq_true rfl, Nat.le_of_ble_eq_true rfl⟩) (kh_preV C hw hS 0 (kh_z0 ρ) kh_kd0 rfl) rfl rfl hl.1.1 rfl (lv_room (kh_sum kh_an (Nat.le_of_ble_eq_true rfl))) dX4_wayOf_7 ⟨Nat.le_of_ble_eq_true rfl, Nat.le_of_ble_eq_true rfl⟩) hS (kh_mp h_18) (fun H locs hw hS => ?_)
  refine kh_istore_n (lv' := [(3, .int r_18), (2, va_rf (kh_rc ad 6 (ρ 11 1 x1.toNatClampNeg 0))), (0, .ref (ad 0 0)), (1, va_rf (kh_rc ad 11 x1))]) C.1 C.2.1 dX4_wayOf_10 rfl hl (by decide) rfl (fun ls hl => ?_)
  refine lv_iconst (v := (0 : Int32)) C.1 C.2.1 dX4_wayOf_11 (by decide) ?_
  refine kh_istore (lv' := [(4, .int (0 : Int32)), (3, .int r_18), (2, va_rf (kh_rc ad 6 (ρ 11 1 x1.toNatClampNeg 0))), (0, .ref (ad 0 0)), (1, va_rf (kh_rc ad 11 x1))]) C.1 C.2.1 dX4_wayOf_12 hl (by decide) rfl (fun ls hl => ?_)
  refine lv_bipush (v := (9 : Int32)) C.1 C.2.1 dX4_wayOf_14 (by decide) ?_
  refine kh_istore (lv' := [(5, .int (9 : Int32)), (4, .int (0 : Int32)), (3, .int r_18), (2, va_rf (kh_rc ad 6 (ρ 11 1 x1.toNatClampNeg 0))), (0, .ref (ad 0 0)), (1, va_rf (kh_rc ad 11 x1))]) C.1 C.2.1 dX4_wayOf_16 hl (by decide) rfl (fun ls hl => ?_)
  refine lv_iconst (v := (1 : Int32)) C.1 C.2.1 dX4_wayOf_18 (by decide) ?_
  refine kh_istore (lv' := [(6, .int (1 : Int32)), (5, .int (9 : Int32)), (4, .int (0 : Int32)), (3, .int r_18), (2, va_rf (kh_rc ad 6 (ρ 11 1 x1.toNatClampNeg 0))), (0, .ref (ad 0 0)), (1, va_rf (kh_rc ad 11 x1))]) C.1 C.2.1 dX4_wayOf_19 hl (by decide) rfl (fun ls hl => ?_)
  obtain ⟨b_21, hb_21, hF⟩ := kh_bd_ok hF
  exact wB21 x1 (ρ 11 1 x1.toNatClampNeg 0) r_18 b_21 hF _ (0 : Int32) (9 : Int32) (1 : Int32) _ _ _ hb_21 hw hS (kh_sub hl [6, 4, 3, 2, 1, 0] rfl)

def f_X4_leave (ρ : kh_S) (x0 : Int32) (x1 : Int32) : Option (kh_S) := kh_gd (kh_in x0 (kh_n ρ 11)) (kh_gd (kh_in (ρ 11 1 x0.toNatClampNeg 0) (kh_n (kh_up ρ 11 6 x0.toNatClampNeg 0 x1) 6)) (some (kh_up (kh_up (kh_up (kh_up ρ 11 6 x0.toNatClampNeg 0 x1) 6 8 ((ρ 11 1 x0.toNatClampNeg 0).toNatClampNeg) 0 (2 : Int32)) 6 12 ((ρ 11 1 x0.toNatClampNeg 0).toNatClampNeg) 0 (-1)) 6 9 ((ρ 11 1 x0.toNatClampNeg 0).toNatClampNeg) 0 ((kh_up (kh_up (kh_up ρ 11 6 x0.toNatClampNeg 0 x1) 6 8 ((ρ 11 1 x0.toNatClampNeg 0).toNatClampNeg) 0 (2 : Int32)) 6 12 ((ρ 11 1 x0.toNatClampNeg 0).toNatClampNeg) 0 (-1)) 11 7 x0.toNatClampNeg 0))))
set_option maxHeartbeats 4000000 in
set_option maxRecDepth 100000 in
theorem c_X4_leave (l : Launch) (D : va_G) (ca : Nat → ClassId) (A : Nat → Prop) (ad : Nat → Nat → Nat) (ρ : kh_S) (x0 : Int32) (x1 : Int32) {q0 : kh_S} (hF0 : f_X4_leave ρ x0 x1 = some q0) : Met l yX4_leave wsX4_leave ({ frames := 0, cells := 0, slots := 0, locals := 0 } : Room) (va_Pc [va_rf (kh_rc ad 11 x0), .int x1] (kh_I D ca A ad ρ)) (kh_Qv D ca A ad (f_X4_leave ρ x0 x1)) 0 0 A := by
  refine Met.ofW (cc := cX4_leave) (maxL := 3) (ret := none) (by decide) rfl ?_
  intro p e s m args below meth c s₁ B hml hv
  obtain ⟨rfl, hK, hw, hA⟩ := hv
  have C : kh_C p s m ([va_rf (kh_rc ad 11 x0), .int x1]).toArray c cX4_leave 3 RX4 wsX4_leave D ca A := ⟨B.exec, B.bytes, hml, findClass_of_methodNamed B.named, atoms_spec (ws := wsX4_leave) B.pre, hK, hA⟩
  have hr := B.returns
  have hlocks := B.notSynchronized
  have hS : va_S A s.heap s.heap [] := va_S.rf
  have hl := kh_entry ([va_rf (kh_rc ad 11 x0), .int x1]) (n := 3) (kh_ac (kh_c1 _) (kh_ac rfl kh_an)) (Nat.le_of_ble_eq_true rfl)
  rw [lg_entry_eq]
  generalize (lg_sl ([va_rf (kh_rc ad 11 x0), .int x1]) ++ List.replicate (3 - (lg_sl ([va_rf (kh_rc ad 11 x0), .int x1])).length) Slot.unset).toArray = ls at hl ⊢
  have hl : kh_lv ls 3 [(0, va_rf (kh_rc ad 11 x0)), (1, .int x1)] := hl
  have k_155 := C.2.2.2.2.1 (.fieldLink RX4 155 "KeylessHall$Group" "place" "LKeylessHall$Room;") (by decide +kernel)
  have k_161 := C.2.2.2.2.1 (.fieldLink RX4 161 "KeylessHall$Group" "how" "I") (by decide +kernel)
  have k_77 := C.2.2.2.2.1 (.fieldLink RX4 77 "KeylessHall$Room" "how" "I") (by decide +kernel)
  have k_273 := C.2.2.2.2.1 (.fieldLink RX4 273 "KeylessHall$Room" "players" "LKeylessHall$Group;") (by decide +kernel)
  have k_174 := C.2.2.2.2.1 (.fieldLink RX4 174 "KeylessHall$Group" "solved" "I") (by decide +kernel)
  have k_228 := C.2.2.2.2.1 (.fieldLink RX4 228 "KeylessHall$Room" "toReset" "I") (by decide +kernel)
  have hF := hF0
  unfold f_X4_leave at hF
  refine kh_aload_n C.1 C.2.1 dX4_leave_0 rfl (kh_at hl 0 rfl) ?_
  obtain ⟨g_1, hF⟩ := kh_gd_ok hF
  have v_2 := kh_in_lt g_1
  have r_3 := kh_rf (ad := ad) (k := 11) g_1
  refine kh_get C hw 11 1 r_3 v_2 kh_kd11 (Cn := RX1) (T := TX1) (N := 9) rfl (Nat.le_of_ble_eq_true rfl) k_155 (kf_11_1 ad ρ x0.toNatClampNeg) dX4_leave_1 ?_
  refine kh_astore_n (lv' := [(2, va_rf (kh_rc ad 6 (ρ 11 1 x0.toNatClampNeg 0))), (0, va_rf (kh_rc ad 11 x0)), (1, .int x1)]) C.1 C.2.1 dX4_leave_4 rfl hl (by decide) rfl (fun ls hl => ?_)
  refine kh_aload_n C.1 C.2.1 dX4_leave_5 rfl (kh_at hl 1 rfl) ?_
  refine lv_iload_n C.1 C.2.1 dX4_leave_6 rfl (kh_at hl 2 rfl) ?_
  refine kh_putI C hw hS 11 6 r_3 v_2 kh_kd11 (by decide) (Cn := RX1) (T := TX1) (N := 9) rfl (Nat.le_of_ble_eq_true rfl) (kq_11_6) k_161 rfl (by decide +kernel) dX4_leave_7 (fun H locs hw hS => ?_)
  refine kh_aload_n C.1 C.2.1 dX4_leave_10 rfl (kh_at hl 0 rfl) ?_
  refine lv_iconst (v := (2 : Int32)) C.1 C.2.1 dX4_leave_11 (by decide) ?_
  obtain ⟨g_4, hF⟩ := kh_gd_ok hF
  have v_5 := kh_in_lt g_4
  have r_6 := kh_rf (ad := ad) (k := 6) g_4
  refine kh_putI C hw hS 6 8 r_6 v_5 kh_kd6 (by decide) (Cn := RX2) (T := TX2) (N := 13) rfl (Nat.le_of_ble_eq_true rfl) (kq_6_8) k_77 rfl (by decide +kernel) dX4_leave_12 (fun H locs hw hS => ?_)
  refine kh_aload_n C.1 C.2.1 dX4_leave_15 rfl (kh_at hl 0 rfl) ?_
  refine lv_null C.1 C.2.1 dX4_leave_16 ?_
  refine kh_putR C hw hS 6 12 11 (x := (-1)) (C2 := "KeylessHall$Group") r_6 (kh_lu v_5) kh_kd6 (by decide) (Cn := RX2) (T := TX2) (N := 13) rfl (Nat.le_of_ble_eq_true rfl) (kq_6_12) k_273 rfl (by decide +kernel) rfl dX4_leave_17 (fun H locs hw hS => ?_)
  refine kh_aload_n C.1 C.2.1 dX4_leave_20 rfl (kh_at hl 0 rfl) ?_
  refine kh_aload_n C.1 C.2.1 dX4_leave_21 rfl (kh_at hl 1 rfl) ?_
  refine kh_get C hw 11 7 r_3 (kh_lu (kh_lu (kh_lu v_2))) kh_kd11 (Cn := RX1) (T := TX1) (N := 9) rfl (Nat.le_of_ble_eq_true rfl) k_174 (kf_11_7 ad (kh_up (kh_up (kh_up ρ 11 6 x0.toNatClampNeg 0 x1) 6 8 ((ρ 11 1 x0.toNatClampNeg 0).toNatClampNeg) 0 (2 : Int32)) 6 12 ((ρ 11 1 x0.toNatClampNeg 0).toNatClampNeg) 0 (-1)) x0.toNatClampNeg) dX4_leave_22 ?_
  refine kh_putI C hw hS 6 9 r_6 (kh_lu (kh_lu v_5)) kh_kd6 (by decide) (Cn := RX2) (T := TX2) (N := 13) rfl (Nat.le_of_ble_eq_true rfl) (kq_6_9) k_228 rfl (by decide +kernel) dX4_leave_25 (fun H locs hw hS => ?_)
  exact W.vret C.1 C.2.1 hr (fun t ht hW => ⟨⟨kh_up (kh_up (kh_up (kh_up ρ 11 6 x0.toNatClampNeg 0 x1) 6 8 ((ρ 11 1 x0.toNatClampNeg 0).toNatClampNeg) 0 (2 : Int32)) 6 12 ((ρ 11 1 x0.toNatClampNeg 0).toNatClampNeg) 0 (-1)) 6 9 ((ρ 11 1 x0.toNatClampNeg 0).toNatClampNeg) 0 ((kh_up (kh_up (kh_up ρ 11 6 x0.toNatClampNeg 0 x1) 6 8 ((ρ 11 1 x0.toNatClampNeg 0).toNatClampNeg) 0 (2 : Int32)) 6 12 ((ρ 11 1 x0.toNatClampNeg 0).toNatClampNeg) 0 (-1)) 11 7 x0.toNatClampNeg 0), rfl, hF0.trans hF.symm, kh_bk ht hw⟩, hS.F ht⟩) hS.2.2 dX4_leave_28

def f_X4_leaveIfOut_L16 (ρ_16 : kh_S) : Option (kh_S) := some ρ_16
def f_X4_leaveIfOut (ρ : kh_S) (x0 : Int32) : Option (kh_S) := kh_gd (kh_in x0 (kh_n ρ 11)) (kh_bd (f_X4_has ρ (ρ 11 8 x0.toNatClampNeg 0) (0 : Int32)) (fun r_4 => if r_4 = 0 then f_X4_leaveIfOut_L16 ρ else kh_bd (f_X4_leave ρ x0 (1 : Int32)) (fun ρ_6 => f_X4_leaveIfOut_L16 ρ_6)))
set_option maxHeartbeats 4000000 in
set_option maxRecDepth 100000 in
theorem c_X4_leaveIfOut (l : Launch) (D : va_G) (ca : Nat → ClassId) (A : Nat → Prop) (ad : Nat → Nat → Nat) (ρ : kh_S) (x0 : Int32) {q0 : kh_S} (hF0 : f_X4_leaveIfOut ρ x0 = some q0) : Met l yX4_leaveIfOut wsX4_leaveIfOut ({ frames := 1, cells := 0, slots := 0, locals := 22 } : Room) (va_Pc [va_rf (kh_rc ad 11 x0)] (kh_I D ca A ad ρ)) (kh_Qv D ca A ad (f_X4_leaveIfOut ρ x0)) 0 0 A := by
  refine Met.ofW (cc := cX4_leaveIfOut) (maxL := 1) (ret := none) (by decide) rfl ?_
  intro p e s m args below meth c s₁ B hml hv
  obtain ⟨rfl, hK, hw, hA⟩ := hv
  have C : kh_C p s m ([va_rf (kh_rc ad 11 x0)]).toArray c cX4_leaveIfOut 1 RX4 wsX4_leaveIfOut D ca A := ⟨B.exec, B.bytes, hml, findClass_of_methodNamed B.named, atoms_spec (ws := wsX4_leaveIfOut) B.pre, hK, hA⟩
  have hr := B.returns
  have hlocks := B.notSynchronized
  have hS : va_S A s.heap s.heap [] := va_S.rf
  have hl := kh_entry ([va_rf (kh_rc ad 11 x0)]) (n := 1) (kh_ac (kh_c1 _) kh_an) (Nat.le_of_ble_eq_true rfl)
  rw [lg_entry_eq]
  generalize (lg_sl ([va_rf (kh_rc ad 11 x0)]) ++ List.replicate (1 - (lg_sl ([va_rf (kh_rc ad 11 x0)])).length) Slot.unset).toArray = ls at hl ⊢
  have hl : kh_lv ls 1 [(0, va_rf (kh_rc ad 11 x0))] := hl
  have k_166 := C.2.2.2.2.1 (.fieldLink RX4 166 "KeylessHall$Group" "held" "I") (by decide +kernel)
  have hF := hF0
  unfold f_X4_leaveIfOut at hF
  have wL16 : ∀ (ρ_16 : kh_S) (H : Heap) (locs : List Loc) (ls : Array Slot), f_X4_leaveIfOut_L16 ρ_16 = some q0 → kh_w D ca A ad ρ_16 H → va_S A s.heap H locs → kh_lv ls 1 [] → W p l e (headSpec wsX4_leaveIfOut ({ frames := 1, cells := 0, slots := 0, locals := 22 } : Room)).room s m ([va_rf (kh_rc ad 11 x0)]).toArray below meth c H locs 0 0 (MQ below (kh_Qv D ca A ad (f_X4_leaveIfOut ρ x0)) ([va_rf (kh_rc ad 11 x0)]).toArray s 0 0 A) (F0 m 16 ls []) := by
    intro ρ_16 H locs ls hF hw hS hl
    unfold f_X4_leaveIfOut_L16 at hF
    exact W.vret C.1 C.2.1 hr (fun t ht hW => ⟨⟨ρ_16, rfl, hF0.trans hF.symm, kh_bk ht hw⟩, hS.F ht⟩) hS.2.2 dX4_leaveIfOut_16
  refine kh_aload_n C.1 C.2.1 dX4_leaveIfOut_0 rfl (kh_at hl 0 rfl) ?_
  obtain ⟨g_1, hF⟩ := kh_gd_ok hF
  have v_2 := kh_in_lt g_1
  have r_3 := kh_rf (ad := ad) (k := 11) g_1
  refine kh_get C hw 11 8 r_3 v_2 kh_kd11 (Cn := RX1) (T := TX1) (N := 9) rfl (Nat.le_of_ble_eq_true rfl) k_166 (kf_11_8 ad ρ x0.toNatClampNeg) dX4_leaveIfOut_1 ?_
  refine lv_iconst (v := (0 : Int32)) C.1 C.2.1 dX4_leaveIfOut_4 (by decide) ?_
  obtain ⟨r_4, h_4, hF⟩ := kh_bd_ok hF
  refine kh_calli (va_runS (As := [.int (ρ 11 8 x0.toNatClampNeg 0), .int (0 : Int32)]) (rest := []) ⟨C.1, C.2.1, C.2.2.1, C.2.2.2.1, C.2.2.2.2.1⟩ (c_X4_has l D ca A ad ρ (ρ 11 8 x0.toNatClampNeg 0) (0 : Int32) h_4) (va_cwS 2 C.2.2.2.2.1 gX4_leaveIfOut_X4_has rfl rfl rfl (by decide +kernel) ⟨Nat.le_of_ble_eq_true rfl, Nat.le_of_ble_eq_true rfl⟩) (kh_preS C hw hS) rfl rfl hl.1.1 rfl (lv_room (kh_sum kh_an (Nat.le_of_ble_eq_true rfl))) dX4_leaveIfOut_5 ⟨Nat.le_of_ble_eq_true rfl, Nat.le_of_ble_eq_true rfl⟩) hS (kh_mp h_4) (fun H locs hw hS => ?_)
  refine lv_if_eq (tgt := 16) C.1 C.2.1 dX4_leaveIfOut_8 (by decide) (fun c_5 => ?_) (fun c_5 => ?_)
  · have hF := kh_ift hF c_5
    exact wL16 ρ _ _ _ hF hw hS (kh_sub hl [] rfl)
  · have hF := kh_iff hF c_5
    refine kh_aload_n C.1 C.2.1 dX4_leaveIfOut_11 rfl (kh_at hl 0 rfl) ?_
    refine lv_iconst (v := (1 : Int32)) C.1 C.2.1 dX4_leaveIfOut_12 (by decide) ?_
    obtain ⟨ρ_6, h_6, hF⟩ := kh_bd_ok hF
    refine kh_callv (va_runS (As := [va_rf (kh_rc ad 11 x0), .int (1 : Int32)]) (rest := []) ⟨C.1, C.2.1, C.2.2.1, C.2.2.2.1, C.2.2.2.2.1⟩ (c_X4_leave l D ca A ad ρ x0 (1 : Int32) h_6) (va_cwS 2 C.2.2.2.2.1 gX4_leaveIfOut_X4_leave rfl rfl rfl (by decide +kernel) ⟨Nat.le_of_ble_eq_true rfl, Nat.le_of_ble_eq_true rfl⟩) (kh_preS C hw hS) rfl rfl hl.1.1 rfl (lv_room (kh_sum kh_an (Nat.le_of_ble_eq_true rfl))) dX4_leaveIfOut_13 ⟨Nat.le_of_ble_eq_true rfl, Nat.le_of_ble_eq_true rfl⟩) hS h_6 (fun H locs hw hS => ?_)
    exact wL16 ρ_6 _ _ _ hF hw hS (kh_sub hl [] rfl)

def f_X4_leaveIfLate_L16 (ρ_16 : kh_S) : Option (kh_S) := some ρ_16
def f_X4_leaveIfLate (ρ : kh_S) (x1 : Int32) : Option (kh_S) := kh_gd (kh_in x1 (kh_n ρ 11)) (kh_bd (f_X1_minutesLeft ρ x1.toNatClampNeg (ρ 0 8 0 0)) (fun r_4 => if 0 < r_4 then f_X4_leaveIfLate_L16 ρ else kh_bd (f_X4_leave ρ x1 (2 : Int32)) (fun ρ_6 => f_X4_leaveIfLate_L16 ρ_6)))
set_option maxHeartbeats 4000000 in
set_option maxRecDepth 100000 in
theorem c_X4_leaveIfLate (l : Launch) (D : va_G) (ca : Nat → ClassId) (A : Nat → Prop) (ad : Nat → Nat → Nat) (ρ : kh_S) (x1 : Int32) {q0 : kh_S} (hF0 : f_X4_leaveIfLate ρ x1 = some q0) : Met l yX4_leaveIfLate wsX4_leaveIfLate ({ frames := 1, cells := 0, slots := 0, locals := 22 } : Room) (va_Pc [.ref (ad 0 0), va_rf (kh_rc ad 11 x1)] (kh_I D ca A ad ρ)) (kh_Qv D ca A ad (f_X4_leaveIfLate ρ x1)) 0 0 A := by
  refine Met.ofW (cc := cX4_leaveIfLate) (maxL := 2) (ret := none) (by decide) rfl ?_
  intro p e s m args below meth c s₁ B hml hv
  obtain ⟨rfl, hK, hw, hA⟩ := hv
  have C : kh_C p s m ([.ref (ad 0 0), va_rf (kh_rc ad 11 x1)]).toArray c cX4_leaveIfLate 2 RX4 wsX4_leaveIfLate D ca A := ⟨B.exec, B.bytes, hml, findClass_of_methodNamed B.named, atoms_spec (ws := wsX4_leaveIfLate) B.pre, hK, hA⟩
  have hr := B.returns
  have hlocks := B.notSynchronized
  have hS : va_S A s.heap s.heap [] := va_S.rf
  have hl := kh_entry ([.ref (ad 0 0), va_rf (kh_rc ad 11 x1)]) (n := 2) (kh_ac rfl (kh_ac (kh_c1 _) kh_an)) (Nat.le_of_ble_eq_true rfl)
  rw [lg_entry_eq]
  generalize (lg_sl ([.ref (ad 0 0), va_rf (kh_rc ad 11 x1)]) ++ List.replicate (2 - (lg_sl ([.ref (ad 0 0), va_rf (kh_rc ad 11 x1)])).length) Slot.unset).toArray = ls at hl ⊢
  have hl : kh_lv ls 2 [(0, .ref (ad 0 0)), (1, va_rf (kh_rc ad 11 x1))] := hl
  have k_231 := C.2.2.2.2.1 (.fieldLink RX4 231 "KeylessHall" "now" "I") (by decide +kernel)
  have hF := hF0
  unfold f_X4_leaveIfLate at hF
  have wL16 : ∀ (ρ_16 : kh_S) (H : Heap) (locs : List Loc) (ls : Array Slot), f_X4_leaveIfLate_L16 ρ_16 = some q0 → kh_w D ca A ad ρ_16 H → va_S A s.heap H locs → kh_lv ls 2 [] → W p l e (headSpec wsX4_leaveIfLate ({ frames := 1, cells := 0, slots := 0, locals := 22 } : Room)).room s m ([.ref (ad 0 0), va_rf (kh_rc ad 11 x1)]).toArray below meth c H locs 0 0 (MQ below (kh_Qv D ca A ad (f_X4_leaveIfLate ρ x1)) ([.ref (ad 0 0), va_rf (kh_rc ad 11 x1)]).toArray s 0 0 A) (F0 m 16 ls []) := by
    intro ρ_16 H locs ls hF hw hS hl
    unfold f_X4_leaveIfLate_L16 at hF
    exact W.vret C.1 C.2.1 hr (fun t ht hW => ⟨⟨ρ_16, rfl, hF0.trans hF.symm, kh_bk ht hw⟩, hS.F ht⟩) hS.2.2 dX4_leaveIfLate_16
  refine kh_aload_n C.1 C.2.1 dX4_leaveIfLate_0 rfl (kh_at hl 1 rfl) ?_
  refine lv_aload_n C.1 C.2.1 dX4_leaveIfLate_1 rfl (kh_at hl 0 rfl) ?_
  refine kh_get C hw 0 8 rfl (kh_z0 ρ) kh_kd0 (Cn := RX4) (T := TX4) (N := 10) rfl (Nat.le_of_ble_eq_true rfl) k_231 (kf_0_8 ad ρ 0) dX4_leaveIfLate_2 ?_
  obtain ⟨g_1, hF⟩ := kh_gd_ok hF
  have v_2 := kh_in_lt g_1
  have r_3 := kh_rf (ad := ad) (k := 11) g_1
  obtain ⟨r_4, h_4, hF⟩ := kh_bd_ok hF
  refine kh_calli (va_runV (As := [.int (ρ 0 8 0 0)]) (rest := []) ⟨C.1, C.2.1, C.2.2.1, C.2.2.2.1, C.2.2.2.2.1⟩ (c_X1_minutesLeft l D ca A ad ρ x1.toNatClampNeg (ρ 0 8 0 0) h_4) (cwV 1 C.2.2.2.2.1 gX4_leaveIfLate_X1_minutesLeft rfl rfl rfl (by decide +kernel) ⟨Nat.le_of_ble_eq_true rfl, Nat.le_of_ble_eq_true rfl⟩) (kh_preV C hw hS 11 v_2 kh_kd11 rfl) rfl rfl hl.1.1 (by show _ = _; rw [r_3]; rfl) (lv_room (kh_sum kh_an (Nat.le_of_ble_eq_true rfl))) dX4_leaveIfLate_5 ⟨Nat.le_of_ble_eq_true rfl, Nat.le_of_ble_eq_true rfl⟩) hS (kh_mp h_4) (fun H locs hw hS => ?_)
  refine lv_if_gt (tgt := 16) C.1 C.2.1 dX4_leaveIfLate_8 (by decide) (fun c_5 => ?_) (fun c_5 => ?_)
  · have hF := kh_ift hF c_5
    exact wL16 ρ _ _ _ hF hw hS (kh_sub hl [] rfl)
  · have hF := kh_iff hF c_5
    refine kh_aload_n C.1 C.2.1 dX4_leaveIfLate_11 rfl (kh_at hl 1 rfl) ?_
    refine lv_iconst (v := (2 : Int32)) C.1 C.2.1 dX4_leaveIfLate_12 (by decide) ?_
    obtain ⟨ρ_6, h_6, hF⟩ := kh_bd_ok hF
    refine kh_callv (va_runS (As := [va_rf (kh_rc ad 11 x1), .int (2 : Int32)]) (rest := []) ⟨C.1, C.2.1, C.2.2.1, C.2.2.2.1, C.2.2.2.2.1⟩ (c_X4_leave l D ca A ad ρ x1 (2 : Int32) h_6) (va_cwS 2 C.2.2.2.2.1 gX4_leaveIfLate_X4_leave rfl rfl rfl (by decide +kernel) ⟨Nat.le_of_ble_eq_true rfl, Nat.le_of_ble_eq_true rfl⟩) (kh_preS C hw hS) rfl rfl hl.1.1 rfl (lv_room (kh_sum kh_an (Nat.le_of_ble_eq_true rfl))) dX4_leaveIfLate_13 ⟨Nat.le_of_ble_eq_true rfl, Nat.le_of_ble_eq_true rfl⟩) hS h_6 (fun H locs hw hS => ?_)
    exact wL16 ρ_6 _ _ _ hF hw hS (kh_sub hl [] rfl)

def f_X4_freeLockedIn_L69 (ρ_69 : kh_S) (x1_69 : Int32) : Option (Int32 × kh_S) := some (x1_69, ρ_69)
def f_X4_freeLockedIn_L63 (ρ_63 : kh_S) (x1_63 : Int32) (x2_63 : Int32) : Option ((kh_S × Int32 × Int32) ⊕ (kh_S × Int32)) := some (.inl (ρ_63, x1_63, x2_63 + (1 : Int32)))
def f_X4_freeLockedIn_B4  (σ_4 : kh_S) (y1_4 : Int32) (y2_4 : Int32) : Option ((kh_S × Int32 × Int32) ⊕ (kh_S × Int32)) := if (σ_4 0 1 0 0) ≤ y2_4 then some (.inr (σ_4, y1_4)) else kh_gd (kh_in y2_4 4) (kh_gd (kh_in (σ_4 1 0 0 y2_4.toNatClampNeg) (kh_n σ_4 6)) (if (σ_4 6 12 ((σ_4 1 0 0 y2_4.toNatClampNeg).toNatClampNeg) 0) < 0 then f_X4_freeLockedIn_L63 σ_4 y1_4 y2_4 else kh_gd (kh_in (σ_4 6 12 ((σ_4 1 0 0 y2_4.toNatClampNeg).toNatClampNeg) 0) (kh_n σ_4 11)) (kh_bd (f_X2_working σ_4 ((σ_4 1 0 0 y2_4.toNatClampNeg).toNatClampNeg) (σ_4 0 7 0 0)) (fun r_10 => kh_bd (f_X2_reach σ_4 ((σ_4 1 0 0 y2_4.toNatClampNeg).toNatClampNeg) (σ_4 11 8 ((σ_4 6 12 ((σ_4 1 0 0 y2_4.toNatClampNeg).toNatClampNeg) 0).toNatClampNeg) 0) r_10) (fun r_11 => kh_bd (f_X4_has σ_4 r_11 (0 : Int32)) (fun r_12 => if r_12 = 0 then kh_bd (f_X4_leave σ_4 (σ_4 6 12 ((σ_4 1 0 0 y2_4.toNatClampNeg).toNatClampNeg) 0) (3 : Int32)) (fun ρ_14 => f_X4_freeLockedIn_L63 ρ_14 (y1_4 + (1 : Int32)) y2_4) else f_X4_freeLockedIn_L63 σ_4 y1_4 y2_4))))))
def f_X4_freeLockedIn_A4  : (kh_S × Int32) → Option (Int32 × kh_S) := (fun u : kh_S × Int32 => f_X4_freeLockedIn_L69 u.1 u.2)
def f_X4_freeLockedIn (ρ : kh_S)  : Option (Int32 × kh_S) := kh_bd (kh_lp (fun a : kh_S × Int32 × Int32 => f_X4_freeLockedIn_B4 a.1 a.2.1 a.2.2) 9999 (ρ, (0 : Int32), (0 : Int32))) (f_X4_freeLockedIn_A4)
set_option maxHeartbeats 4000000 in
set_option maxRecDepth 100000 in
theorem c_X4_freeLockedIn (l : Launch) (D : va_G) (ca : Nat → ClassId) (A : Nat → Prop) (ad : Nat → Nat → Nat) (ρ : kh_S)  {q0 : Int32 × kh_S} (hF0 : f_X4_freeLockedIn ρ = some q0) : Met l yX4_freeLockedIn wsX4_freeLockedIn ({ frames := 3, cells := 0, slots := 0, locals := 68 } : Room) (va_Pc [.ref (ad 0 0)] (kh_I D ca A ad ρ)) (kh_Qi D ca A ad (f_X4_freeLockedIn ρ)) 0 0 A := by
  refine Met.ofW (cc := cX4_freeLockedIn) (maxL := 5) (ret := (some .int)) (by decide) rfl ?_
  intro p e s m args below meth c s₁ B hml hv
  obtain ⟨rfl, hK, hw, hA⟩ := hv
  have C : kh_C p s m ([.ref (ad 0 0)]).toArray c cX4_freeLockedIn 5 RX4 wsX4_freeLockedIn D ca A := ⟨B.exec, B.bytes, hml, findClass_of_methodNamed B.named, atoms_spec (ws := wsX4_freeLockedIn) B.pre, hK, hA⟩
  have hr := B.returns
  have hlocks := B.notSynchronized
  have hS : va_S A s.heap s.heap [] := va_S.rf
  have hl := kh_entry ([.ref (ad 0 0)]) (n := 5) (kh_ac rfl kh_an) (Nat.le_of_ble_eq_true rfl)
  rw [lg_entry_eq]
  generalize (lg_sl ([.ref (ad 0 0)]) ++ List.replicate (5 - (lg_sl ([.ref (ad 0 0)])).length) Slot.unset).toArray = ls at hl ⊢
  have hl : kh_lv ls 5 [(0, .ref (ad 0 0))] := hl
  have k_49 := C.2.2.2.2.1 (.fieldLink RX4 49 "KeylessHall" "roomCount" "I") (by decide +kernel)
  have k_11 := C.2.2.2.2.1 (.fieldLink RX4 11 "KeylessHall" "rooms" "[LKeylessHall$Room;") (by decide +kernel)
  have k_273 := C.2.2.2.2.1 (.fieldLink RX4 273 "KeylessHall$Room" "players" "LKeylessHall$Group;") (by decide +kernel)
  have k_166 := C.2.2.2.2.1 (.fieldLink RX4 166 "KeylessHall$Group" "held" "I") (by decide +kernel)
  have k_91 := C.2.2.2.2.1 (.fieldLink RX4 91 "KeylessHall" "brokenProps" "I") (by decide +kernel)
  have hF := hF0
  unfold f_X4_freeLockedIn at hF
  have wL69 : ∀ (ρ_69 : kh_S) (x1_69 : Int32) (H : Heap) (locs : List Loc) (ls : Array Slot), f_X4_freeLockedIn_L69 ρ_69 x1_69 = some q0 → kh_w D ca A ad ρ_69 H → va_S A s.heap H locs → kh_lv ls 5 [(1, .int x1_69)] → W p l e (headSpec wsX4_freeLockedIn ({ frames := 3, cells := 0, slots := 0, locals := 68 } : Room)).room s m ([.ref (ad 0 0)]).toArray below meth c H locs 0 0 (MQ below (kh_Qi D ca A ad (f_X4_freeLockedIn ρ)) ([.ref (ad 0 0)]).toArray s 0 0 A) (F0 m 69 ls []) := by
    intro ρ_69 x1_69 H locs ls hF hw hS hl
    unfold f_X4_freeLockedIn_L69 at hF
    refine lv_iload_n C.1 C.2.1 dX4_freeLockedIn_69 rfl (kh_at hl 0 rfl) ?_
    exact W.iret (v := x1_69) C.1 C.2.1 hr (fun t ht hW => ⟨⟨x1_69, ρ_69, rfl, hF0.trans hF.symm, kh_bk ht hw⟩, hS.F ht⟩) hS.2.2 dX4_freeLockedIn_70
  have wB4 : ∀  (b : kh_S × Int32), f_X4_freeLockedIn_A4 b = some q0 → ∀ (n : Nat) (σ_4 : kh_S) (y1_4 : Int32) (y2_4 : Int32) (H : Heap) (locs : List Loc) (ls : Array Slot), kh_lp (fun a : kh_S × Int32 × Int32 => f_X4_freeLockedIn_B4 a.1 a.2.1 a.2.2) n (σ_4, y1_4, y2_4) = some b → kh_w D ca A ad σ_4 H → va_S A s.heap H locs → kh_lv ls 5 [(0, .ref (ad 0 0)), (1, .int y1_4), (2, .int y2_4)] → W p l e (headSpec wsX4_freeLockedIn ({ frames := 3, cells := 0, slots := 0, locals := 68 } : Room)).room s m ([.ref (ad 0 0)]).toArray below meth c H locs 0 0 (MQ below (kh_Qi D ca A ad (f_X4_freeLockedIn ρ)) ([.ref (ad 0 0)]).toArray s 0 0 A) (F0 m 4 ls []) := by
    intro  b hA_4 n
    induction n with
    | zero => intro σ_4 y1_4 y2_4 H locs ls h9; exact absurd h9 (fun z => nomatch z)
    | succ n ih_4 =>
      intro σ_4 y1_4 y2_4 H locs ls hb_4 hw hS hl
      obtain ⟨q_4, hF, hb_4⟩ := kh_lp_ok hb_4
      have hF : f_X4_freeLockedIn_B4 σ_4 y1_4 y2_4 = some q_4 := hF
      have wL63 : ∀ (ρ_63 : kh_S) (x1_63 : Int32) (x2_63 : Int32) (H : Heap) (locs : List Loc) (ls : Array Slot), f_X4_freeLockedIn_L63 ρ_63 x1_63 x2_63 = some q_4 → kh_w D ca A ad ρ_63 H → va_S A s.heap H locs → kh_lv ls 5 [(0, .ref (ad 0 0)), (1, .int x1_63), (2, .int x2_63)] → W p l e (headSpec wsX4_freeLockedIn ({ frames := 3, cells := 0, slots := 0, locals := 68 } : Room)).room s m ([.ref (ad 0 0)]).toArray below meth c H locs 0 0 (MQ below (kh_Qi D ca A ad (f_X4_freeLockedIn ρ)) ([.ref (ad 0 0)]).toArray s 0 0 A) (F0 m 63 ls []) := by
        intro ρ_63 x1_63 x2_63 H locs ls hF hw hS hl
        unfold f_X4_freeLockedIn_L63 at hF
        refine kh_iinc (v := x2_63 + (1 : Int32)) (lv' := [(2, .int (x2_63 + (1 : Int32))), (0, .ref (ad 0 0)), (1, .int x1_63)]) C.1 C.2.1 dX4_freeLockedIn_63 hl (k := 2) rfl (by rfl) (by decide) rfl (fun ls hl => ?_)
        refine lv_goto (tgt := 4) C.1 C.2.1 dX4_freeLockedIn_66 (by decide) ?_
        have e9 := Option.some.inj hF
        rcases hb_4 with ⟨a9, h8, h9⟩ | h8
        · have h7 := Sum.inl.inj (e9.trans h8)
          subst h7
          exact ih_4 _ _ _ _ _ _ h9 hw hS (kh_sub hl [1, 2, 0] rfl)
        · exact absurd (e9.trans h8) (fun z => nomatch z)
      unfold f_X4_freeLockedIn_B4 at hF
      refine lv_iload_n C.1 C.2.1 dX4_freeLockedIn_4 rfl (kh_at hl 2 rfl) ?_
      refine lv_aload_n C.1 C.2.1 dX4_freeLockedIn_5 rfl (kh_at hl 0 rfl) ?_
      refine kh_get C hw 0 1 rfl (kh_z0 σ_4) kh_kd0 (Cn := RX4) (T := TX4) (N := 10) rfl (Nat.le_of_ble_eq_true rfl) k_49 (kf_0_1 ad σ_4 0) dX4_freeLockedIn_6 ?_
      refine lv_icmp_ge (tgt := 69) C.1 C.2.1 dX4_freeLockedIn_9 (by decide) (fun c_1 => ?_) (fun c_1 => ?_)
      · have hF := kh_ift hF c_1
        have e9 := Option.some.inj hF
        rcases hb_4 with ⟨a9, h8, h9⟩ | h8
        · exact absurd (e9.trans h8) (fun z => nomatch z)
        have h7 := Sum.inr.inj (e9.trans h8)
        have hF := (congrArg (f_X4_freeLockedIn_A4) h7).trans hA_4
        exact wL69 σ_4 y1_4 _ _ _ hF hw hS (kh_sub hl [1] rfl)
      · have hF := kh_iff hF c_1
        refine lv_aload_n C.1 C.2.1 dX4_freeLockedIn_12 rfl (kh_at hl 0 rfl) ?_
        refine kh_get C hw 0 0 rfl (kh_z0 σ_4) kh_kd0 (Cn := RX4) (T := TX4) (N := 10) rfl (Nat.le_of_ble_eq_true rfl) k_11 (kf_0_0 ad σ_4 0) dX4_freeLockedIn_13 ?_
        refine lv_iload_n C.1 C.2.1 dX4_freeLockedIn_16 rfl (kh_at hl 2 rfl) ?_
        obtain ⟨g_2, hF⟩ := kh_gd_ok hF
        refine kh_aald C hw 1 rfl (kh_z1 σ_4) kh_kd1 kh_ty1 g_2 dX4_freeLockedIn_17 ?_
        refine kh_astore_n (lv' := [(3, va_rf (kh_rc ad 6 (σ_4 1 0 0 y2_4.toNatClampNeg))), (0, .ref (ad 0 0)), (1, .int y1_4), (2, .int y2_4)]) C.1 C.2.1 dX4_freeLockedIn_18 rfl hl (by decide) rfl (fun ls hl => ?_)
        refine kh_aload_n C.1 C.2.1 dX4_freeLockedIn_19 rfl (kh_at hl 0 rfl) ?_
        obtain ⟨g_3, hF⟩ := kh_gd_ok hF
        have v_4 := kh_in_lt g_3
        have r_5 := kh_rf (ad := ad) (k := 6) g_3
        refine kh_get C hw 6 12 r_5 v_4 kh_kd6 (Cn := RX2) (T := TX2) (N := 13) rfl (Nat.le_of_ble_eq_true rfl) k_273 (kf_6_12 ad σ_4 ((σ_4 1 0 0 y2_4.toNatClampNeg).toNatClampNeg)) dX4_freeLockedIn_20 ?_
        refine kh_astore (lv' := [(4, va_rf (kh_rc ad 11 (σ_4 6 12 ((σ_4 1 0 0 y2_4.toNatClampNeg).toNatClampNeg) 0))), (3, va_rf (kh_rc ad 6 (σ_4 1 0 0 y2_4.toNatClampNeg))), (0, .ref (ad 0 0)), (1, .int y1_4), (2, .int y2_4)]) C.1 C.2.1 dX4_freeLockedIn_23 hl (by decide) rfl (fun ls hl => ?_)
        refine kh_aload C.1 C.2.1 dX4_freeLockedIn_25 (kh_at hl 0 rfl) ?_
        refine kh_ifnull (tgt := 63) C.1 C.2.1 dX4_freeLockedIn_27 (by decide) (fun c_6 => ?_) (fun c_6 => ?_)
        · have hF := kh_ift hF c_6
          exact wL63 σ_4 y1_4 y2_4 _ _ _ hF hw hS (kh_sub hl [2, 3, 4] rfl)
        · have hF := kh_iff hF c_6
          refine kh_aload_n C.1 C.2.1 dX4_freeLockedIn_30 rfl (kh_at hl 1 rfl) ?_
          refine kh_aload C.1 C.2.1 dX4_freeLockedIn_31 (kh_at hl 0 rfl) ?_
          obtain ⟨g_7, hF⟩ := kh_gd_ok hF
          have v_8 := kh_in_lt g_7
          have r_9 := kh_rf (ad := ad) (k := 11) g_7
          refine kh_get C hw 11 8 r_9 v_8 kh_kd11 (Cn := RX1) (T := TX1) (N := 9) rfl (Nat.le_of_ble_eq_true rfl) k_166 (kf_11_8 ad σ_4 ((σ_4 6 12 ((σ_4 1 0 0 y2_4.toNatClampNeg).toNatClampNeg) 0).toNatClampNeg)) dX4_freeLockedIn_33 ?_
          refine kh_aload_n C.1 C.2.1 dX4_freeLockedIn_36 rfl (kh_at hl 1 rfl) ?_
          refine lv_aload_n C.1 C.2.1 dX4_freeLockedIn_37 rfl (kh_at hl 2 rfl) ?_
          refine kh_get C hw 0 7 rfl (kh_z0 σ_4) kh_kd0 (Cn := RX4) (T := TX4) (N := 10) rfl (Nat.le_of_ble_eq_true rfl) k_91 (kf_0_7 ad σ_4 0) dX4_freeLockedIn_38 ?_
          obtain ⟨r_10, h_10, hF⟩ := kh_bd_ok hF
          refine kh_calli (va_runV (As := [.int (σ_4 0 7 0 0)]) (rest := [.int (σ_4 11 8 ((σ_4 6 12 ((σ_4 1 0 0 y2_4.toNatClampNeg).toNatClampNeg) 0).toNatClampNeg) 0), va_rf (kh_rc ad 6 (σ_4 1 0 0 y2_4.toNatClampNeg))]) ⟨C.1, C.2.1, C.2.2.1, C.2.2.2.1, C.2.2.2.2.1⟩ (c_X2_working l D ca A ad σ_4 ((σ_4 1 0 0 y2_4.toNatClampNeg).toNatClampNeg) (σ_4 0 7 0 0) h_10) (cwV 1 C.2.2.2.2.1 gX4_freeLockedIn_X2_working rfl rfl rfl (by decide +kernel) ⟨Nat.le_of_ble_eq_true rfl, Nat.le_of_ble_eq_true rfl⟩) (kh_preV C hw hS 6 v_4 kh_kd6 rfl) rfl rfl hl.1.1 (by show _ = _; rw [r_5]; rfl) (lv_room (kh_sum (kh_ac rfl (kh_ac (kh_c1 _) kh_an)) (Nat.le_of_ble_eq_true rfl))) dX4_freeLockedIn_41 ⟨Nat.le_of_ble_eq_true rfl, Nat.le_of_ble_eq_true rfl⟩) hS (kh_mp h_10) (fun H locs hw hS => ?_)
          obtain ⟨r_11, h_11, hF⟩ := kh_bd_ok hF
          refine kh_calli (va_runV (As := [.int (σ_4 11 8 ((σ_4 6 12 ((σ_4 1 0 0 y2_4.toNatClampNeg).toNatClampNeg) 0).toNatClampNeg) 0), .int r_10]) (rest := []) ⟨C.1, C.2.1, C.2.2.1, C.2.2.2.1, C.2.2.2.2.1⟩ (c_X2_reach l D ca A ad σ_4 ((σ_4 1 0 0 y2_4.toNatClampNeg).toNatClampNeg) (σ_4 11 8 ((σ_4 6 12 ((σ_4 1 0 0 y2_4.toNatClampNeg).toNatClampNeg) 0).toNatClampNeg) 0) r_10 h_11) (cwV 2 C.2.2.2.2.1 gX4_freeLockedIn_X2_reach rfl rfl rfl (by decide +kernel) ⟨Nat.le_of_ble_eq_true rfl, Nat.le_of_ble_eq_true rfl⟩) (kh_preV C hw hS 6 v_4 kh_kd6 rfl) rfl rfl hl.1.1 (by show _ = _; rw [r_5]; rfl) (lv_room (kh_sum kh_an (Nat.le_of_ble_eq_true rfl))) dX4_freeLockedIn_44 ⟨Nat.le_of_ble_eq_true rfl, Nat.le_of_ble_eq_true rfl⟩) hS (kh_mp h_11) (fun H locs hw hS => ?_)
          refine lv_iconst (v := (0 : Int32)) C.1 C.2.1 dX4_freeLockedIn_47 (by decide) ?_
          obtain ⟨r_12, h_12, hF⟩ := kh_bd_ok hF
          refine kh_calli (va_runS (As := [.int r_11, .int (0 : Int32)]) (rest := []) ⟨C.1, C.2.1, C.2.2.1, C.2.2.2.1, C.2.2.2.2.1⟩ (c_X4_has l D ca A ad σ_4 r_11 (0 : Int32) h_12) (va_cwS 2 C.2.2.2.2.1 gX4_freeLockedIn_X4_has rfl rfl rfl (by decide +kernel) ⟨Nat.le_of_ble_eq_true rfl, Nat.le_of_ble_eq_true rfl⟩) (kh_preS C hw hS) rfl rfl hl.1.1 rfl (lv_room (kh_sum kh_an (Nat.le_of_ble_eq_true rfl))) dX4_freeLockedIn_48 ⟨Nat.le_of_ble_eq_true rfl, Nat.le_of_ble_eq_true rfl⟩) hS (kh_mp h_12) (fun H locs hw hS => ?_)
          refine lv_if_ne (tgt := 63) C.1 C.2.1 dX4_freeLockedIn_51 (by decide) (fun c_13 => ?_) (fun c_13 => ?_)
          · have hF := kh_iff hF c_13
            exact wL63 σ_4 y1_4 y2_4 _ _ _ hF hw hS (kh_sub hl [2, 3, 4] rfl)
          · have hF := kh_ift hF c_13
            refine kh_aload C.1 C.2.1 dX4_freeLockedIn_54 (kh_at hl 0 rfl) ?_
            refine lv_iconst (v := (3 : Int32)) C.1 C.2.1 dX4_freeLockedIn_56 (by decide) ?_
            obtain ⟨ρ_14, h_14, hF⟩ := kh_bd_ok hF
            refine kh_callv (va_runS (As := [va_rf (kh_rc ad 11 (σ_4 6 12 ((σ_4 1 0 0 y2_4.toNatClampNeg).toNatClampNeg) 0)), .int (3 : Int32)]) (rest := []) ⟨C.1, C.2.1, C.2.2.1, C.2.2.2.1, C.2.2.2.2.1⟩ (c_X4_leave l D ca A ad σ_4 (σ_4 6 12 ((σ_4 1 0 0 y2_4.toNatClampNeg).toNatClampNeg) 0) (3 : Int32) h_14) (va_cwS 2 C.2.2.2.2.1 gX4_freeLockedIn_X4_leave rfl rfl rfl (by decide +kernel) ⟨Nat.le_of_ble_eq_true rfl, Nat.le_of_ble_eq_true rfl⟩) (kh_preS C hw hS) rfl rfl hl.1.1 rfl (lv_room (kh_sum kh_an (Nat.le_of_ble_eq_true rfl))) dX4_freeLockedIn_57 ⟨Nat.le_of_ble_eq_true rfl, Nat.le_of_ble_eq_true rfl⟩) hS h_14 (fun H locs hw hS => ?_)
            refine kh_iinc (v := y1_4 + (1 : Int32)) (lv' := [(1, .int (y1_4 + (1 : Int32))), (4, va_rf (kh_rc ad 11 (σ_4 6 12 ((σ_4 1 0 0 y2_4.toNatClampNeg).toNatClampNeg) 0))), (3, va_rf (kh_rc ad 6 (σ_4 1 0 0 y2_4.toNatClampNeg))), (0, .ref (ad 0 0)), (2, .int y2_4)]) C.1 C.2.1 dX4_freeLockedIn_60 hl (k := 3) rfl (by rfl) (by decide) rfl (fun ls hl => ?_)
            exact wL63 ρ_14 (y1_4 + (1 : Int32)) y2_4 _ _ _ hF hw hS (kh_sub hl [3, 0, 4] rfl)
  refine lv_iconst (v := (0 : Int32)) C.1 C.2.1 dX4_freeLockedIn_0 (by decide) ?_
  refine kh_istore_n (lv' := [(1, .int (0 : Int32)), (0, .ref (ad 0 0))]) C.1 C.2.1 dX4_freeLockedIn_1 rfl hl (by decide) rfl (fun ls hl => ?_)
  refine lv_iconst (v := (0 : Int32)) C.1 C.2.1 dX4_freeLockedIn_2 (by decide) ?_
  refine kh_istore_n (lv' := [(2, .int (0 : Int32)), (1, .int (0 : Int32)), (0, .ref (ad 0 0))]) C.1 C.2.1 dX4_freeLockedIn_3 rfl hl (by decide) rfl (fun ls hl => ?_)
  obtain ⟨b_4, hb_4, hF⟩ := kh_bd_ok hF
  exact wB4  b_4 hF _ ρ (0 : Int32) (0 : Int32) _ _ _ hb_4 hw hS (kh_sub hl [2, 1, 0] rfl)

def f_X4_finishReset (ρ : kh_S) (x0 : Int32) (x1 : Int32) : Option (kh_S) := kh_gd (kh_in x1 (kh_n ρ 6)) (kh_gd (kh_in x0 (kh_n (kh_up ρ 6 8 x1.toNatClampNeg 0 (0 : Int32)) 13)) (kh_bd (f_X3_stop (kh_up ρ 6 8 x1.toNatClampNeg 0 (0 : Int32)) x0.toNatClampNeg) (fun ρ_7 => some ρ_7)))
set_option maxHeartbeats 4000000 in
set_option maxRecDepth 100000 in
theorem c_X4_finishReset (l : Launch) (D : va_G) (ca : Nat → ClassId) (A : Nat → Prop) (ad : Nat → Nat → Nat) (ρ : kh_S) (x0 : Int32) (x1 : Int32) {q0 : kh_S} (hF0 : f_X4_finishReset ρ x0 x1 = some q0) : Met l yX4_finishReset wsX4_finishReset ({ frames := 1, cells := 0, slots := 0, locals := 20 } : Room) (va_Pc [va_rf (kh_rc ad 13 x0), va_rf (kh_rc ad 6 x1)] (kh_I D ca A ad ρ)) (kh_Qv D ca A ad (f_X4_finishReset ρ x0 x1)) 0 0 A := by
  refine Met.ofW (cc := cX4_finishReset) (maxL := 2) (ret := none) (by decide) rfl ?_
  intro p e s m args below meth c s₁ B hml hv
  obtain ⟨rfl, hK, hw, hA⟩ := hv
  have C : kh_C p s m ([va_rf (kh_rc ad 13 x0), va_rf (kh_rc ad 6 x1)]).toArray c cX4_finishReset 2 RX4 wsX4_finishReset D ca A := ⟨B.exec, B.bytes, hml, findClass_of_methodNamed B.named, atoms_spec (ws := wsX4_finishReset) B.pre, hK, hA⟩
  have hr := B.returns
  have hlocks := B.notSynchronized
  have hS : va_S A s.heap s.heap [] := va_S.rf
  have hl := kh_entry ([va_rf (kh_rc ad 13 x0), va_rf (kh_rc ad 6 x1)]) (n := 2) (kh_ac (kh_c1 _) (kh_ac (kh_c1 _) kh_an)) (Nat.le_of_ble_eq_true rfl)
  rw [lg_entry_eq]
  generalize (lg_sl ([va_rf (kh_rc ad 13 x0), va_rf (kh_rc ad 6 x1)]) ++ List.replicate (2 - (lg_sl ([va_rf (kh_rc ad 13 x0), va_rf (kh_rc ad 6 x1)])).length) Slot.unset).toArray = ls at hl ⊢
  have hl : kh_lv ls 2 [(0, va_rf (kh_rc ad 13 x0)), (1, va_rf (kh_rc ad 6 x1))] := hl
  have k_77 := C.2.2.2.2.1 (.fieldLink RX4 77 "KeylessHall$Room" "how" "I") (by decide +kernel)
  have hF := hF0
  unfold f_X4_finishReset at hF
  refine kh_aload_n C.1 C.2.1 dX4_finishReset_0 rfl (kh_at hl 1 rfl) ?_
  refine lv_iconst (v := (0 : Int32)) C.1 C.2.1 dX4_finishReset_1 (by decide) ?_
  obtain ⟨g_1, hF⟩ := kh_gd_ok hF
  have v_2 := kh_in_lt g_1
  have r_3 := kh_rf (ad := ad) (k := 6) g_1
  refine kh_putI C hw hS 6 8 r_3 v_2 kh_kd6 (by decide) (Cn := RX2) (T := TX2) (N := 13) rfl (Nat.le_of_ble_eq_true rfl) (kq_6_8) k_77 rfl (by decide +kernel) dX4_finishReset_2 (fun H locs hw hS => ?_)
  refine kh_aload_n C.1 C.2.1 dX4_finishReset_5 rfl (kh_at hl 0 rfl) ?_
  obtain ⟨g_4, hF⟩ := kh_gd_ok hF
  have v_5 := kh_in_lt g_4
  have r_6 := kh_rf (ad := ad) (k := 13) g_4
  obtain ⟨ρ_7, h_7, hF⟩ := kh_bd_ok hF
  refine kh_callv (va_runV (As := []) (rest := []) ⟨C.1, C.2.1, C.2.2.1, C.2.2.2.1, C.2.2.2.2.1⟩ (c_X3_stop l D ca A ad (kh_up ρ 6 8 x1.toNatClampNeg 0 (0 : Int32)) x0.toNatClampNeg h_7) (cwV 0 C.2.2.2.2.1 gX4_finishReset_X3_stop rfl rfl rfl (by decide +kernel) ⟨Nat.le_of_ble_eq_true rfl, Nat.le_of_ble_eq_true rfl⟩) (kh_preV C hw hS 13 v_5 kh_kd13 rfl) rfl rfl hl.1.1 (by show _ = _; rw [r_6]; rfl) (lv_room (kh_sum kh_an (Nat.le_of_ble_eq_true rfl))) dX4_finishReset_6 ⟨Nat.le_of_ble_eq_true rfl, Nat.le_of_ble_eq_true rfl⟩) hS h_7 (fun H locs hw hS => ?_)
  exact W.vret C.1 C.2.1 hr (fun t ht hW => ⟨⟨ρ_7, rfl, hF0.trans hF.symm, kh_bk ht hw⟩, hS.F ht⟩) hS.2.2 dX4_finishReset_9

def f_X4_beginNext_L76 (ρ_76 : kh_S) : Option (kh_S) := some ρ_76
def f_X4_beginNext_L27 (ρ_27 : kh_S) (x0_27 : Int32) (x1_27 : Int32) : Option (kh_S) := kh_gd (kh_in x1_27 (kh_n ρ_27 6)) (if (ρ_27 6 9 x1_27.toNatClampNeg 0) = 0 then if (ρ_27 6 11 x1_27.toNatClampNeg 0) = 0 then kh_bd (f_X4_finishReset ρ_27 x0_27 x1_27) (fun ρ_6 => f_X4_beginNext_L76 ρ_6) else kh_gd (kh_in x0_27 (kh_n ρ_27 13)) (kh_bd (f_X3_begin ρ_27 x0_27.toNatClampNeg x1_27 (-1 : Int32) (5 : Int32)) (fun ρ_10 => f_X4_beginNext_L76 ρ_10)) else kh_bd (f_X2_nextToReset ρ_27 x1_27.toNatClampNeg) (fun r_11 => kh_gd (kh_in r_11 8) (kh_gd (kh_in x0_27 (kh_n ρ_27 13)) (kh_bd (f_X3_begin ρ_27 x0_27.toNatClampNeg x1_27 r_11 (ρ_27 10 0 x1_27.toNatClampNeg r_11.toNatClampNeg)) (fun ρ_16 => f_X4_beginNext_L76 ρ_16)))))
def f_X4_beginNext (ρ : kh_S) (x0 : Int32) (x1 : Int32) : Option (kh_S) := kh_gd (kh_in x1 (kh_n ρ 6)) (if (ρ 6 9 x1.toNatClampNeg 0) = 0 then if (ρ 6 11 x1.toNatClampNeg 0) = 0 then f_X4_beginNext_L27 ρ x0 x1 else f_X4_beginNext_L27 (kh_up (kh_up ρ 6 9 x1.toNatClampNeg 0 (ρ 6 10 x1.toNatClampNeg 0)) 6 10 x1.toNatClampNeg 0 (0 : Int32)) x0 x1 else f_X4_beginNext_L27 ρ x0 x1)
set_option maxHeartbeats 4000000 in
set_option maxRecDepth 100000 in
theorem c_X4_beginNext (l : Launch) (D : va_G) (ca : Nat → ClassId) (A : Nat → Prop) (ad : Nat → Nat → Nat) (ρ : kh_S) (x0 : Int32) (x1 : Int32) {q0 : kh_S} (hF0 : f_X4_beginNext ρ x0 x1 = some q0) : Met l yX4_beginNext wsX4_beginNext ({ frames := 3, cells := 0, slots := 0, locals := 67 } : Room) (va_Pc [va_rf (kh_rc ad 13 x0), va_rf (kh_rc ad 6 x1)] (kh_I D ca A ad ρ)) (kh_Qv D ca A ad (f_X4_beginNext ρ x0 x1)) 0 0 A := by
  refine Met.ofW (cc := cX4_beginNext) (maxL := 3) (ret := none) (by decide) rfl ?_
  intro p e s m args below meth c s₁ B hml hv
  obtain ⟨rfl, hK, hw, hA⟩ := hv
  have C : kh_C p s m ([va_rf (kh_rc ad 13 x0), va_rf (kh_rc ad 6 x1)]).toArray c cX4_beginNext 3 RX4 wsX4_beginNext D ca A := ⟨B.exec, B.bytes, hml, findClass_of_methodNamed B.named, atoms_spec (ws := wsX4_beginNext) B.pre, hK, hA⟩
  have hr := B.returns
  have hlocks := B.notSynchronized
  have hS : va_S A s.heap s.heap [] := va_S.rf
  have hl := kh_entry ([va_rf (kh_rc ad 13 x0), va_rf (kh_rc ad 6 x1)]) (n := 3) (kh_ac (kh_c1 _) (kh_ac (kh_c1 _) kh_an)) (Nat.le_of_ble_eq_true rfl)
  rw [lg_entry_eq]
  generalize (lg_sl ([va_rf (kh_rc ad 13 x0), va_rf (kh_rc ad 6 x1)]) ++ List.replicate (3 - (lg_sl ([va_rf (kh_rc ad 13 x0), va_rf (kh_rc ad 6 x1)])).length) Slot.unset).toArray = ls at hl ⊢
  have hl : kh_lv ls 3 [(0, va_rf (kh_rc ad 13 x0)), (1, va_rf (kh_rc ad 6 x1))] := hl
  have k_228 := C.2.2.2.2.1 (.fieldLink RX4 228 "KeylessHall$Room" "toReset" "I") (by decide +kernel)
  have k_215 := C.2.2.2.2.1 (.fieldLink RX4 215 "KeylessHall$Room" "isToBeChecked" "Z") (by decide +kernel)
  have k_336 := C.2.2.2.2.1 (.fieldLink RX4 336 "KeylessHall$Room" "minutes" "[I") (by decide +kernel)
  have k_212 := C.2.2.2.2.1 (.fieldLink RX4 212 "KeylessHall$Room" "forgotten" "I") (by decide +kernel)
  have hF := hF0
  unfold f_X4_beginNext at hF
  have wL76 : ∀ (ρ_76 : kh_S) (H : Heap) (locs : List Loc) (ls : Array Slot), f_X4_beginNext_L76 ρ_76 = some q0 → kh_w D ca A ad ρ_76 H → va_S A s.heap H locs → kh_lv ls 3 [] → W p l e (headSpec wsX4_beginNext ({ frames := 3, cells := 0, slots := 0, locals := 67 } : Room)).room s m ([va_rf (kh_rc ad 13 x0), va_rf (kh_rc ad 6 x1)]).toArray below meth c H locs 0 0 (MQ below (kh_Qv D ca A ad (f_X4_beginNext ρ x0 x1)) ([va_rf (kh_rc ad 13 x0), va_rf (kh_rc ad 6 x1)]).toArray s 0 0 A) (F0 m 76 ls []) := by
    intro ρ_76 H locs ls hF hw hS hl
    unfold f_X4_beginNext_L76 at hF
    exact W.vret C.1 C.2.1 hr (fun t ht hW => ⟨⟨ρ_76, rfl, hF0.trans hF.symm, kh_bk ht hw⟩, hS.F ht⟩) hS.2.2 dX4_beginNext_76
  have wL27 : ∀ (ρ_27 : kh_S) (x0_27 : Int32) (x1_27 : Int32) (H : Heap) (locs : List Loc) (ls : Array Slot), f_X4_beginNext_L27 ρ_27 x0_27 x1_27 = some q0 → kh_w D ca A ad ρ_27 H → va_S A s.heap H locs → kh_lv ls 3 [(0, va_rf (kh_rc ad 13 x0_27)), (1, va_rf (kh_rc ad 6 x1_27))] → W p l e (headSpec wsX4_beginNext ({ frames := 3, cells := 0, slots := 0, locals := 67 } : Room)).room s m ([va_rf (kh_rc ad 13 x0), va_rf (kh_rc ad 6 x1)]).toArray below meth c H locs 0 0 (MQ below (kh_Qv D ca A ad (f_X4_beginNext ρ x0 x1)) ([va_rf (kh_rc ad 13 x0), va_rf (kh_rc ad 6 x1)]).toArray s 0 0 A) (F0 m 27 ls []) := by
    intro ρ_27 x0_27 x1_27 H locs ls hF hw hS hl
    unfold f_X4_beginNext_L27 at hF
    refine kh_aload_n C.1 C.2.1 dX4_beginNext_27 rfl (kh_at hl 1 rfl) ?_
    obtain ⟨g_1, hF⟩ := kh_gd_ok hF
    have v_2 := kh_in_lt g_1
    have r_3 := kh_rf (ad := ad) (k := 6) g_1
    refine kh_get C hw 6 9 r_3 v_2 kh_kd6 (Cn := RX2) (T := TX2) (N := 13) rfl (Nat.le_of_ble_eq_true rfl) k_228 (kf_6_9 ad ρ_27 x1_27.toNatClampNeg) dX4_beginNext_28 ?_
    refine lv_if_eq (tgt := 54) C.1 C.2.1 dX4_beginNext_31 (by decide) (fun c_4 => ?_) (fun c_4 => ?_)
    · have hF := kh_ift hF c_4
      refine kh_aload_n C.1 C.2.1 dX4_beginNext_54 rfl (kh_at hl 1 rfl) ?_
      refine kh_get C hw 6 11 r_3 v_2 kh_kd6 (Cn := RX2) (T := TX2) (N := 13) rfl (Nat.le_of_ble_eq_true rfl) k_215 (kf_6_11 ad ρ_27 x1_27.toNatClampNeg) dX4_beginNext_55 ?_
      refine lv_if_eq (tgt := 71) C.1 C.2.1 dX4_beginNext_58 (by decide) (fun c_5 => ?_) (fun c_5 => ?_)
      · have hF := kh_ift hF c_5
        refine kh_aload_n C.1 C.2.1 dX4_beginNext_71 rfl (kh_at hl 0 rfl) ?_
        refine kh_aload_n C.1 C.2.1 dX4_beginNext_72 rfl (kh_at hl 1 rfl) ?_
        obtain ⟨ρ_6, h_6, hF⟩ := kh_bd_ok hF
        refine kh_callv (va_runS (As := [va_rf (kh_rc ad 13 x0_27), va_rf (kh_rc ad 6 x1_27)]) (rest := []) ⟨C.1, C.2.1, C.2.2.1, C.2.2.2.1, C.2.2.2.2.1⟩ (c_X4_finishReset l D ca A ad ρ_27 x0_27 x1_27 h_6) (va_cwS 2 C.2.2.2.2.1 gX4_beginNext_X4_finishReset rfl rfl rfl (by decide +kernel) ⟨Nat.le_of_ble_eq_true rfl, Nat.le_of_ble_eq_true rfl⟩) (kh_preS C hw hS) rfl rfl hl.1.1 rfl (lv_room (kh_sum kh_an (Nat.le_of_ble_eq_true rfl))) dX4_beginNext_73 ⟨Nat.le_of_ble_eq_true rfl, Nat.le_of_ble_eq_true rfl⟩) hS h_6 (fun H locs hw hS => ?_)
        exact wL76 ρ_6 _ _ _ hF hw hS (kh_sub hl [] rfl)
      · have hF := kh_iff hF c_5
        refine kh_aload_n C.1 C.2.1 dX4_beginNext_61 rfl (kh_at hl 0 rfl) ?_
        refine kh_aload_n C.1 C.2.1 dX4_beginNext_62 rfl (kh_at hl 1 rfl) ?_
        refine lv_iconst (v := (-1 : Int32)) C.1 C.2.1 dX4_beginNext_63 (by decide) ?_
        refine lv_iconst (v := (5 : Int32)) C.1 C.2.1 dX4_beginNext_64 (by decide) ?_
        obtain ⟨g_7, hF⟩ := kh_gd_ok hF
        have v_8 := kh_in_lt g_7
        have r_9 := kh_rf (ad := ad) (k := 13) g_7
        obtain ⟨ρ_10, h_10, hF⟩ := kh_bd_ok hF
        refine kh_callv (va_runV (As := [va_rf (kh_rc ad 6 x1_27), .int (-1 : Int32), .int (5 : Int32)]) (rest := []) ⟨C.1, C.2.1, C.2.2.1, C.2.2.2.1, C.2.2.2.2.1⟩ (c_X3_begin l D ca A ad ρ_27 x0_27.toNatClampNeg x1_27 (-1 : Int32) (5 : Int32) h_10) (cwV 3 C.2.2.2.2.1 gX4_beginNext_X3_begin rfl rfl rfl (by decide +kernel) ⟨Nat.le_of_ble_eq_true rfl, Nat.le_of_ble_eq_true rfl⟩) (kh_preV C hw hS 13 v_8 kh_kd13 rfl) rfl rfl hl.1.1 (by show _ = _; rw [r_9]; rfl) (lv_room (kh_sum kh_an (Nat.le_of_ble_eq_true rfl))) dX4_beginNext_65 ⟨Nat.le_of_ble_eq_true rfl, Nat.le_of_ble_eq_true rfl⟩) hS h_10 (fun H locs hw hS => ?_)
        refine lv_goto (tgt := 76) C.1 C.2.1 dX4_beginNext_68 (by decide) ?_
        exact wL76 ρ_10 _ _ _ hF hw hS (kh_sub hl [] rfl)
    · have hF := kh_iff hF c_4
      refine kh_aload_n C.1 C.2.1 dX4_beginNext_34 rfl (kh_at hl 1 rfl) ?_
      obtain ⟨r_11, h_11, hF⟩ := kh_bd_ok hF
      refine kh_calli (va_runV (As := []) (rest := []) ⟨C.1, C.2.1, C.2.2.1, C.2.2.2.1, C.2.2.2.2.1⟩ (c_X2_nextToReset l D ca A ad ρ_27 x1_27.toNatClampNeg h_11) (cwV 0 C.2.2.2.2.1 gX4_beginNext_X2_nextToReset rfl rfl rfl (by decide +kernel) ⟨Nat.le_of_ble_eq_true rfl, Nat.le_of_ble_eq_true rfl⟩) (kh_preV C hw hS 6 v_2 kh_kd6 rfl) rfl rfl hl.1.1 (by show _ = _; rw [r_3]; rfl) (lv_room (kh_sum kh_an (Nat.le_of_ble_eq_true rfl))) dX4_beginNext_35 ⟨Nat.le_of_ble_eq_true rfl, Nat.le_of_ble_eq_true rfl⟩) hS (kh_mp h_11) (fun H locs hw hS => ?_)
      refine kh_istore_n (lv' := [(2, .int r_11), (0, va_rf (kh_rc ad 13 x0_27)), (1, va_rf (kh_rc ad 6 x1_27))]) C.1 C.2.1 dX4_beginNext_38 rfl hl (by decide) rfl (fun ls hl => ?_)
      refine kh_aload_n C.1 C.2.1 dX4_beginNext_39 rfl (kh_at hl 1 rfl) ?_
      refine kh_aload_n C.1 C.2.1 dX4_beginNext_40 rfl (kh_at hl 2 rfl) ?_
      refine lv_iload_n C.1 C.2.1 dX4_beginNext_41 rfl (kh_at hl 0 rfl) ?_
      refine kh_aload_n C.1 C.2.1 dX4_beginNext_42 rfl (kh_at hl 2 rfl) ?_
      refine kh_get C hw 6 5 r_3 v_2 kh_kd6 (Cn := RX2) (T := TX2) (N := 13) rfl (Nat.le_of_ble_eq_true rfl) k_336 (kf_6_5 ad ρ_27 x1_27.toNatClampNeg) dX4_beginNext_43 ?_
      refine lv_iload_n C.1 C.2.1 dX4_beginNext_46 rfl (kh_at hl 0 rfl) ?_
      obtain ⟨g_12, hF⟩ := kh_gd_ok hF
      refine kh_iald C hw 10 rfl v_2 kh_kd10 g_12 dX4_beginNext_47 ?_
      obtain ⟨g_13, hF⟩ := kh_gd_ok hF
      have v_14 := kh_in_lt g_13
      have r_15 := kh_rf (ad := ad) (k := 13) g_13
      obtain ⟨ρ_16, h_16, hF⟩ := kh_bd_ok hF
      refine kh_callv (va_runV (As := [va_rf (kh_rc ad 6 x1_27), .int r_11, .int (ρ_27 10 0 x1_27.toNatClampNeg r_11.toNatClampNeg)]) (rest := []) ⟨C.1, C.2.1, C.2.2.1, C.2.2.2.1, C.2.2.2.2.1⟩ (c_X3_begin l D ca A ad ρ_27 x0_27.toNatClampNeg x1_27 r_11 (ρ_27 10 0 x1_27.toNatClampNeg r_11.toNatClampNeg) h_16) (cwV 3 C.2.2.2.2.1 gX4_beginNext_X3_begin rfl rfl rfl (by decide +kernel) ⟨Nat.le_of_ble_eq_true rfl, Nat.le_of_ble_eq_true rfl⟩) (kh_preV C hw hS 13 v_14 kh_kd13 rfl) rfl rfl hl.1.1 (by show _ = _; rw [r_15]; rfl) (lv_room (kh_sum kh_an (Nat.le_of_ble_eq_true rfl))) dX4_beginNext_48 ⟨Nat.le_of_ble_eq_true rfl, Nat.le_of_ble_eq_true rfl⟩) hS h_16 (fun H locs hw hS => ?_)
      refine lv_goto (tgt := 76) C.1 C.2.1 dX4_beginNext_51 (by decide) ?_
      exact wL76 ρ_16 _ _ _ hF hw hS (kh_sub hl [] rfl)
  refine kh_aload_n C.1 C.2.1 dX4_beginNext_0 rfl (kh_at hl 1 rfl) ?_
  obtain ⟨g_17, hF⟩ := kh_gd_ok hF
  have v_18 := kh_in_lt g_17
  have r_19 := kh_rf (ad := ad) (k := 6) g_17
  refine kh_get C hw 6 9 r_19 v_18 kh_kd6 (Cn := RX2) (T := TX2) (N := 13) rfl (Nat.le_of_ble_eq_true rfl) k_228 (kf_6_9 ad ρ x1.toNatClampNeg) dX4_beginNext_1 ?_
  refine lv_if_ne (tgt := 27) C.1 C.2.1 dX4_beginNext_4 (by decide) (fun c_20 => ?_) (fun c_20 => ?_)
  · have hF := kh_iff hF c_20
    exact wL27 ρ x0 x1 _ _ _ hF hw hS (kh_sub hl [0, 1] rfl)
  · have hF := kh_ift hF c_20
    refine kh_aload_n C.1 C.2.1 dX4_beginNext_7 rfl (kh_at hl 1 rfl) ?_
    refine kh_get C hw 6 11 r_19 v_18 kh_kd6 (Cn := RX2) (T := TX2) (N := 13) rfl (Nat.le_of_ble_eq_true rfl) k_215 (kf_6_11 ad ρ x1.toNatClampNeg) dX4_beginNext_8 ?_
    refine lv_if_eq (tgt := 27) C.1 C.2.1 dX4_beginNext_11 (by decide) (fun c_21 => ?_) (fun c_21 => ?_)
    · have hF := kh_ift hF c_21
      exact wL27 ρ x0 x1 _ _ _ hF hw hS (kh_sub hl [0, 1] rfl)
    · have hF := kh_iff hF c_21
      refine kh_aload_n C.1 C.2.1 dX4_beginNext_14 rfl (kh_at hl 1 rfl) ?_
      refine kh_aload_n C.1 C.2.1 dX4_beginNext_15 rfl (kh_at hl 1 rfl) ?_
      refine kh_get C hw 6 10 r_19 v_18 kh_kd6 (Cn := RX2) (T := TX2) (N := 13) rfl (Nat.le_of_ble_eq_true rfl) k_212 (kf_6_10 ad ρ x1.toNatClampNeg) dX4_beginNext_16 ?_
      refine kh_putI C hw hS 6 9 r_19 v_18 kh_kd6 (by decide) (Cn := RX2) (T := TX2) (N := 13) rfl (Nat.le_of_ble_eq_true rfl) (kq_6_9) k_228 rfl (by decide +kernel) dX4_beginNext_19 (fun H locs hw hS => ?_)
      refine kh_aload_n C.1 C.2.1 dX4_beginNext_22 rfl (kh_at hl 1 rfl) ?_
      refine lv_iconst (v := (0 : Int32)) C.1 C.2.1 dX4_beginNext_23 (by decide) ?_
      refine kh_putI C hw hS 6 10 r_19 (kh_lu v_18) kh_kd6 (by decide) (Cn := RX2) (T := TX2) (N := 13) rfl (Nat.le_of_ble_eq_true rfl) (kq_6_10) k_212 rfl (by decide +kernel) dX4_beginNext_24 (fun H locs hw hS => ?_)
      exact wL27 (kh_up (kh_up ρ 6 9 x1.toNatClampNeg 0 (ρ 6 10 x1.toNatClampNeg 0)) 6 10 x1.toNatClampNeg 0 (0 : Int32)) x0 x1 _ _ _ hF hw hS (kh_sub hl [0, 1] rfl)

def f_X4_workOneMinute_L64 (ρ_64 : kh_S) : Option (kh_S) := some ρ_64
def f_X4_workOneMinute (ρ : kh_S) (x0 : Int32) : Option (kh_S) := kh_gd (kh_in x0 (kh_n ρ 13)) (if (ρ 13 0 x0.toNatClampNeg 0) < 0 then some ρ else if ((kh_up ρ 13 2 x0.toNatClampNeg 0 ((ρ 13 2 x0.toNatClampNeg 0) - (1 : Int32))) 13 2 x0.toNatClampNeg 0) ≤ 0 then if ((kh_up ρ 13 2 x0.toNatClampNeg 0 ((ρ 13 2 x0.toNatClampNeg 0) - (1 : Int32))) 13 1 x0.toNatClampNeg 0) = (-1 : Int32) then kh_bd (f_X4_finishReset (kh_up ρ 13 2 x0.toNatClampNeg 0 ((ρ 13 2 x0.toNatClampNeg 0) - (1 : Int32))) x0 (ρ 13 0 x0.toNatClampNeg 0)) (fun ρ_12 => f_X4_workOneMinute_L64 ρ_12) else kh_gd (kh_in (ρ 13 0 x0.toNatClampNeg 0) (kh_n (kh_up ρ 13 2 x0.toNatClampNeg 0 ((ρ 13 2 x0.toNatClampNeg 0) - (1 : Int32))) 6)) (kh_bd (f_X4_without (kh_up ρ 13 2 x0.toNatClampNeg 0 ((ρ 13 2 x0.toNatClampNeg 0) - (1 : Int32))) ((kh_up ρ 13 2 x0.toNatClampNeg 0 ((ρ 13 2 x0.toNatClampNeg 0) - (1 : Int32))) 6 9 ((ρ 13 0 x0.toNatClampNeg 0).toNatClampNeg) 0) ((kh_up ρ 13 2 x0.toNatClampNeg 0 ((ρ 13 2 x0.toNatClampNeg 0) - (1 : Int32))) 13 1 x0.toNatClampNeg 0)) (fun r_10 => kh_bd (f_X4_beginNext (kh_up (kh_up ρ 13 2 x0.toNatClampNeg 0 ((ρ 13 2 x0.toNatClampNeg 0) - (1 : Int32))) 6 9 ((ρ 13 0 x0.toNatClampNeg 0).toNatClampNeg) 0 r_10) x0 (ρ 13 0 x0.toNatClampNeg 0)) (fun ρ_11 => f_X4_workOneMinute_L64 ρ_11))) else some (kh_up ρ 13 2 x0.toNatClampNeg 0 ((ρ 13 2 x0.toNatClampNeg 0) - (1 : Int32))))
set_option maxHeartbeats 4000000 in
set_option maxRecDepth 100000 in
theorem c_X4_workOneMinute (l : Launch) (D : va_G) (ca : Nat → ClassId) (A : Nat → Prop) (ad : Nat → Nat → Nat) (ρ : kh_S) (x0 : Int32) {q0 : kh_S} (hF0 : f_X4_workOneMinute ρ x0 = some q0) : Met l yX4_workOneMinute wsX4_workOneMinute ({ frames := 4, cells := 0, slots := 0, locals := 89 } : Room) (va_Pc [va_rf (kh_rc ad 13 x0)] (kh_I D ca A ad ρ)) (kh_Qv D ca A ad (f_X4_workOneMinute ρ x0)) 0 0 A := by
  refine Met.ofW (cc := cX4_workOneMinute) (maxL := 2) (ret := none) (by decide) rfl ?_
  intro p e s m args below meth c s₁ B hml hv
  obtain ⟨rfl, hK, hw, hA⟩ := hv
  have C : kh_C p s m ([va_rf (kh_rc ad 13 x0)]).toArray c cX4_workOneMinute 2 RX4 wsX4_workOneMinute D ca A := ⟨B.exec, B.bytes, hml, findClass_of_methodNamed B.named, atoms_spec (ws := wsX4_workOneMinute) B.pre, hK, hA⟩
  have hr := B.returns
  have hlocks := B.notSynchronized
  have hS : va_S A s.heap s.heap [] := va_S.rf
  have hl := kh_entry ([va_rf (kh_rc ad 13 x0)]) (n := 2) (kh_ac (kh_c1 _) kh_an) (Nat.le_of_ble_eq_true rfl)
  rw [lg_entry_eq]
  generalize (lg_sl ([va_rf (kh_rc ad 13 x0)]) ++ List.replicate (2 - (lg_sl ([va_rf (kh_rc ad 13 x0)])).length) Slot.unset).toArray = ls at hl ⊢
  have hl : kh_lv ls 2 [(0, va_rf (kh_rc ad 13 x0))] := hl
  have k_209 := C.2.2.2.2.1 (.fieldLink RX4 209 "KeylessHall$Worker" "place" "LKeylessHall$Room;") (by decide +kernel)
  have k_294 := C.2.2.2.2.1 (.fieldLink RX4 294 "KeylessHall$Worker" "minutesLeft" "I") (by decide +kernel)
  have k_223 := C.2.2.2.2.1 (.fieldLink RX4 223 "KeylessHall$Worker" "puzzle" "I") (by decide +kernel)
  have k_228 := C.2.2.2.2.1 (.fieldLink RX4 228 "KeylessHall$Room" "toReset" "I") (by decide +kernel)
  have hF := hF0
  unfold f_X4_workOneMinute at hF
  have wL64 : ∀ (ρ_64 : kh_S) (H : Heap) (locs : List Loc) (ls : Array Slot), f_X4_workOneMinute_L64 ρ_64 = some q0 → kh_w D ca A ad ρ_64 H → va_S A s.heap H locs → kh_lv ls 2 [] → W p l e (headSpec wsX4_workOneMinute ({ frames := 4, cells := 0, slots := 0, locals := 89 } : Room)).room s m ([va_rf (kh_rc ad 13 x0)]).toArray below meth c H locs 0 0 (MQ below (kh_Qv D ca A ad (f_X4_workOneMinute ρ x0)) ([va_rf (kh_rc ad 13 x0)]).toArray s 0 0 A) (F0 m 64 ls []) := by
    intro ρ_64 H locs ls hF hw hS hl
    unfold f_X4_workOneMinute_L64 at hF
    exact W.vret C.1 C.2.1 hr (fun t ht hW => ⟨⟨ρ_64, rfl, hF0.trans hF.symm, kh_bk ht hw⟩, hS.F ht⟩) hS.2.2 dX4_workOneMinute_64
  refine kh_aload_n C.1 C.2.1 dX4_workOneMinute_0 rfl (kh_at hl 0 rfl) ?_
  obtain ⟨g_1, hF⟩ := kh_gd_ok hF
  have v_2 := kh_in_lt g_1
  have r_3 := kh_rf (ad := ad) (k := 13) g_1
  refine kh_get C hw 13 0 r_3 v_2 kh_kd13 (Cn := RX3) (T := TX3) (N := 3) rfl (Nat.le_of_ble_eq_true rfl) k_209 (kf_13_0 ad ρ x0.toNatClampNeg) dX4_workOneMinute_1 ?_
  refine kh_astore_n (lv' := [(1, va_rf (kh_rc ad 6 (ρ 13 0 x0.toNatClampNeg 0))), (0, va_rf (kh_rc ad 13 x0))]) C.1 C.2.1 dX4_workOneMinute_4 rfl hl (by decide) rfl (fun ls hl => ?_)
  refine kh_aload_n C.1 C.2.1 dX4_workOneMinute_5 rfl (kh_at hl 0 rfl) ?_
  refine kh_ifnonnull (tgt := 10) C.1 C.2.1 dX4_workOneMinute_6 (by decide) (fun c_4 => ?_) (fun c_4 => ?_)
  · have hF := kh_iff hF c_4
    refine kh_aload_n C.1 C.2.1 dX4_workOneMinute_10 rfl (kh_at hl 1 rfl) ?_
    refine lv_dup C.1 C.2.1 dX4_workOneMinute_11 (kh_c1 _) ?_
    refine kh_get C hw 13 2 r_3 v_2 kh_kd13 (Cn := RX3) (T := TX3) (N := 3) rfl (Nat.le_of_ble_eq_true rfl) k_294 (kf_13_2 ad ρ x0.toNatClampNeg) dX4_workOneMinute_12 ?_
    refine lv_iconst (v := (1 : Int32)) C.1 C.2.1 dX4_workOneMinute_15 (by decide) ?_
    refine lv_isub C.1 C.2.1 dX4_workOneMinute_16 ?_
    refine kh_putI C hw hS 13 2 r_3 v_2 kh_kd13 (by decide) (Cn := RX3) (T := TX3) (N := 3) rfl (Nat.le_of_ble_eq_true rfl) (kq_13_2) k_294 rfl (by decide +kernel) dX4_workOneMinute_17 (fun H locs hw hS => ?_)
    refine kh_aload_n C.1 C.2.1 dX4_workOneMinute_20 rfl (kh_at hl 1 rfl) ?_
    refine kh_get C hw 13 2 r_3 (kh_lu v_2) kh_kd13 (Cn := RX3) (T := TX3) (N := 3) rfl (Nat.le_of_ble_eq_true rfl) k_294 (kf_13_2 ad (kh_up ρ 13 2 x0.toNatClampNeg 0 ((ρ 13 2 x0.toNatClampNeg 0) - (1 : Int32))) x0.toNatClampNeg) dX4_workOneMinute_21 ?_
    refine lv_if_le (tgt := 28) C.1 C.2.1 dX4_workOneMinute_24 (by decide) (fun c_5 => ?_) (fun c_5 => ?_)
    · have hF := kh_ift hF c_5
      refine kh_aload_n C.1 C.2.1 dX4_workOneMinute_28 rfl (kh_at hl 1 rfl) ?_
      refine kh_get C hw 13 1 r_3 (kh_lu v_2) kh_kd13 (Cn := RX3) (T := TX3) (N := 3) rfl (Nat.le_of_ble_eq_true rfl) k_223 (kf_13_1 ad (kh_up ρ 13 2 x0.toNatClampNeg 0 ((ρ 13 2 x0.toNatClampNeg 0) - (1 : Int32))) x0.toNatClampNeg) dX4_workOneMinute_29 ?_
      refine lv_iconst (v := (-1 : Int32)) C.1 C.2.1 dX4_workOneMinute_32 (by decide) ?_
      refine lv_icmp_ne (tgt := 44) C.1 C.2.1 dX4_workOneMinute_33 (by decide) (fun c_6 => ?_) (fun c_6 => ?_)
      · have hF := kh_iff hF c_6
        refine kh_aload_n C.1 C.2.1 dX4_workOneMinute_44 rfl (kh_at hl 0 rfl) ?_
        refine kh_aload_n C.1 C.2.1 dX4_workOneMinute_45 rfl (kh_at hl 0 rfl) ?_
        obtain ⟨g_7, hF⟩ := kh_gd_ok hF
        have v_8 := kh_in_lt g_7
        have r_9 := kh_rf (ad := ad) (k := 6) g_7
        refine kh_get C hw 6 9 r_9 v_8 kh_kd6 (Cn := RX2) (T := TX2) (N := 13) rfl (Nat.le_of_ble_eq_true rfl) k_228 (kf_6_9 ad (kh_up ρ 13 2 x0.toNatClampNeg 0 ((ρ 13 2 x0.toNatClampNeg 0) - (1 : Int32))) ((ρ 13 0 x0.toNatClampNeg 0).toNatClampNeg)) dX4_workOneMinute_46 ?_
        refine kh_aload_n C.1 C.2.1 dX4_workOneMinute_49 rfl (kh_at hl 1 rfl) ?_
        refine kh_get C hw 13 1 r_3 (kh_lu v_2) kh_kd13 (Cn := RX3) (T := TX3) (N := 3) rfl (Nat.le_of_ble_eq_true rfl) k_223 (kf_13_1 ad (kh_up ρ 13 2 x0.toNatClampNeg 0 ((ρ 13 2 x0.toNatClampNeg 0) - (1 : Int32))) x0.toNatClampNeg) dX4_workOneMinute_50 ?_
        obtain ⟨r_10, h_10, hF⟩ := kh_bd_ok hF
        refine kh_calli (va_runS (As := [.int ((kh_up ρ 13 2 x0.toNatClampNeg 0 ((ρ 13 2 x0.toNatClampNeg 0) - (1 : Int32))) 6 9 ((ρ 13 0 x0.toNatClampNeg 0).toNatClampNeg) 0), .int ((kh_up ρ 13 2 x0.toNatClampNeg 0 ((ρ 13 2 x0.toNatClampNeg 0) - (1 : Int32))) 13 1 x0.toNatClampNeg 0)]) (rest := [va_rf (kh_rc ad 6 (ρ 13 0 x0.toNatClampNeg 0))]) ⟨C.1, C.2.1, C.2.2.1, C.2.2.2.1, C.2.2.2.2.1⟩ (c_X4_without l D ca A ad (kh_up ρ 13 2 x0.toNatClampNeg 0 ((ρ 13 2 x0.toNatClampNeg 0) - (1 : Int32))) ((kh_up ρ 13 2 x0.toNatClampNeg 0 ((ρ 13 2 x0.toNatClampNeg 0) - (1 : Int32))) 6 9 ((ρ 13 0 x0.toNatClampNeg 0).toNatClampNeg) 0) ((kh_up ρ 13 2 x0.toNatClampNeg 0 ((ρ 13 2 x0.toNatClampNeg 0) - (1 : Int32))) 13 1 x0.toNatClampNeg 0) h_10) (va_cwS 2 C.2.2.2.2.1 gX4_workOneMinute_X4_without rfl rfl rfl (by decide +kernel) ⟨Nat.le_of_ble_eq_true rfl, Nat.le_of_ble_eq_true rfl⟩) (kh_preS C hw hS) rfl rfl hl.1.1 rfl (lv_room (kh_sum (kh_ac (kh_c1 _) kh_an) (Nat.le_of_ble_eq_true rfl))) dX4_workOneMinute_53 ⟨Nat.le_of_ble_eq_true rfl, Nat.le_of_ble_eq_true rfl⟩) hS (kh_mp h_10) (fun H locs hw hS => ?_)
        refine kh_putI C hw hS 6 9 r_9 v_8 kh_kd6 (by decide) (Cn := RX2) (T := TX2) (N := 13) rfl (Nat.le_of_ble_eq_true rfl) (kq_6_9) k_228 rfl (by decide +kernel) dX4_workOneMinute_56 (fun H locs hw hS => ?_)
        refine kh_aload_n C.1 C.2.1 dX4_workOneMinute_59 rfl (kh_at hl 1 rfl) ?_
        refine kh_aload_n C.1 C.2.1 dX4_workOneMinute_60 rfl (kh_at hl 0 rfl) ?_
        obtain ⟨ρ_11, h_11, hF⟩ := kh_bd_ok hF
        refine kh_callv (va_runS (As := [va_rf (kh_rc ad 13 x0), va_rf (kh_rc ad 6 (ρ 13 0 x0.toNatClampNeg 0))]) (rest := []) ⟨C.1, C.2.1, C.2.2.1, C.2.2.2.1, C.2.2.2.2.1⟩ (c_X4_beginNext l D ca A ad (kh_up (kh_up ρ 13 2 x0.toNatClampNeg 0 ((ρ 13 2 x0.toNatClampNeg 0) - (1 : Int32))) 6 9 ((ρ 13 0 x0.toNatClampNeg 0).toNatClampNeg) 0 r_10) x0 (ρ 13 0 x0.toNatClampNeg 0) h_11) (va_cwS 2 C.2.2.2.2.1 gX4_workOneMinute_X4_beginNext rfl rfl rfl (by decide +kernel) ⟨Nat.le_of_ble_eq_true rfl, Nat.le_of_ble_eq_true rfl⟩) (kh_preS C hw hS) rfl rfl hl.1.1 rfl (lv_room (kh_sum kh_an (Nat.le_of_ble_eq_true rfl))) dX4_workOneMinute_61 ⟨Nat.le_of_ble_eq_true rfl, Nat.le_of_ble_eq_true rfl⟩) hS h_11 (fun H locs hw hS => ?_)
        exact wL64 ρ_11 _ _ _ hF hw hS (kh_sub hl [] rfl)
      · have hF := kh_ift hF c_6
        refine kh_aload_n C.1 C.2.1 dX4_workOneMinute_36 rfl (kh_at hl 1 rfl) ?_
        refine kh_aload_n C.1 C.2.1 dX4_workOneMinute_37 rfl (kh_at hl 0 rfl) ?_
        obtain ⟨ρ_12, h_12, hF⟩ := kh_bd_ok hF
        refine kh_callv (va_runS (As := [va_rf (kh_rc ad 13 x0), va_rf (kh_rc ad 6 (ρ 13 0 x0.toNatClampNeg 0))]) (rest := []) ⟨C.1, C.2.1, C.2.2.1, C.2.2.2.1, C.2.2.2.2.1⟩ (c_X4_finishReset l D ca A ad (kh_up ρ 13 2 x0.toNatClampNeg 0 ((ρ 13 2 x0.toNatClampNeg 0) - (1 : Int32))) x0 (ρ 13 0 x0.toNatClampNeg 0) h_12) (va_cwS 2 C.2.2.2.2.1 gX4_workOneMinute_X4_finishReset rfl rfl rfl (by decide +kernel) ⟨Nat.le_of_ble_eq_true rfl, Nat.le_of_ble_eq_true rfl⟩) (kh_preS C hw hS) rfl rfl hl.1.1 rfl (lv_room (kh_sum kh_an (Nat.le_of_ble_eq_true rfl))) dX4_workOneMinute_38 ⟨Nat.le_of_ble_eq_true rfl, Nat.le_of_ble_eq_true rfl⟩) hS h_12 (fun H locs hw hS => ?_)
        refine lv_goto (tgt := 64) C.1 C.2.1 dX4_workOneMinute_41 (by decide) ?_
        exact wL64 ρ_12 _ _ _ hF hw hS (kh_sub hl [] rfl)
    · have hF := kh_iff hF c_5
      exact W.vret C.1 C.2.1 hr (fun t ht hW => ⟨⟨kh_up ρ 13 2 x0.toNatClampNeg 0 ((ρ 13 2 x0.toNatClampNeg 0) - (1 : Int32)), rfl, hF0.trans hF.symm, kh_bk ht hw⟩, hS.F ht⟩) hS.2.2 dX4_workOneMinute_27
  · have hF := kh_ift hF c_4
    exact W.vret C.1 C.2.1 hr (fun t ht hW => ⟨⟨ρ, rfl, hF0.trans hF.symm, kh_bk ht hw⟩, hS.F ht⟩) hS.2.2 dX4_workOneMinute_9

def f_X4_bookingDistance (ρ : kh_S) (x0 : Int32) : Option (Int32) := kh_gd (kh_in x0 (kh_n ρ 6)) (some ((60 : Int32) + (ρ 6 7 x0.toNatClampNeg 0)))
set_option maxHeartbeats 4000000 in
set_option maxRecDepth 100000 in
theorem c_X4_bookingDistance (l : Launch) (D : va_G) (ca : Nat → ClassId) (A : Nat → Prop) (ad : Nat → Nat → Nat) (ρ : kh_S) (x0 : Int32) {q0 : Int32} (hF0 : f_X4_bookingDistance ρ x0 = some q0) : Met l yX4_bookingDistance wsX4_bookingDistance ({ frames := 0, cells := 0, slots := 0, locals := 0 } : Room) (va_Pc [va_rf (kh_rc ad 6 x0)] (kh_I D ca A ad ρ)) (kh_Qi D ca A ad (kh_pu (f_X4_bookingDistance ρ x0) ρ)) 0 0 A := by
  refine Met.ofW (cc := cX4_bookingDistance) (maxL := 1) (ret := (some .int)) (by decide) rfl ?_
  intro p e s m args below meth c s₁ B hml hv
  obtain ⟨rfl, hK, hw, hA⟩ := hv
  have C : kh_C p s m ([va_rf (kh_rc ad 6 x0)]).toArray c cX4_bookingDistance 1 RX4 wsX4_bookingDistance D ca A := ⟨B.exec, B.bytes, hml, findClass_of_methodNamed B.named, atoms_spec (ws := wsX4_bookingDistance) B.pre, hK, hA⟩
  have hr := B.returns
  have hlocks := B.notSynchronized
  have hS : va_S A s.heap s.heap [] := va_S.rf
  have hl := kh_entry ([va_rf (kh_rc ad 6 x0)]) (n := 1) (kh_ac (kh_c1 _) kh_an) (Nat.le_of_ble_eq_true rfl)
  rw [lg_entry_eq]
  generalize (lg_sl ([va_rf (kh_rc ad 6 x0)]) ++ List.replicate (1 - (lg_sl ([va_rf (kh_rc ad 6 x0)])).length) Slot.unset).toArray = ls at hl ⊢
  have hl : kh_lv ls 1 [(0, va_rf (kh_rc ad 6 x0))] := hl
  have k_280 := C.2.2.2.2.1 (.fieldLink RX4 280 "KeylessHall$Room" "gap" "I") (by decide +kernel)
  have hF := hF0
  unfold f_X4_bookingDistance at hF
  refine lv_bipush (v := (60 : Int32)) C.1 C.2.1 dX4_bookingDistance_0 (by decide) ?_
  refine kh_aload_n C.1 C.2.1 dX4_bookingDistance_2 rfl (kh_at hl 0 rfl) ?_
  obtain ⟨g_1, hF⟩ := kh_gd_ok hF
  have v_2 := kh_in_lt g_1
  have r_3 := kh_rf (ad := ad) (k := 6) g_1
  refine kh_get C hw 6 7 r_3 v_2 kh_kd6 (Cn := RX2) (T := TX2) (N := 13) rfl (Nat.le_of_ble_eq_true rfl) k_280 (kf_6_7 ad ρ x0.toNatClampNeg) dX4_bookingDistance_3 ?_
  refine lv_iadd C.1 C.2.1 dX4_bookingDistance_6 ?_
  exact W.iret (v := (60 : Int32) + (ρ 6 7 x0.toNatClampNeg 0)) C.1 C.2.1 hr (fun t ht hW => ⟨⟨(60 : Int32) + (ρ 6 7 x0.toNatClampNeg 0), ρ, rfl, kh_mp (hF0.trans hF.symm), kh_bk ht hw⟩, hS.F ht⟩) hS.2.2 dX4_bookingDistance_7

def f_X4_bookingDue_L51 (ρ : kh_S) : Option (Int32) := some (-1)
def f_X4_bookingDue_L43 (ρ : kh_S) (x3_43 : Int32) : Option (Int32) := some x3_43
def f_X4_bookingDue_L45 (ρ : kh_S) (x1_c2 : Int32) (x2_45 : Int32) : Option ((Int32) ⊕ ((Int32) ⊕ (Unit))) := some (.inl (x2_45 + (1 : Int32)))
def f_X4_bookingDue_B2 (ρ : kh_S) (x1_c2 : Int32) (y2_2 : Int32) : Option ((Int32) ⊕ ((Int32) ⊕ (Unit))) := if (ρ 0 5 0 0) ≤ y2_2 then some (.inr (.inr ())) else kh_gd (kh_in y2_2 30) (kh_gd (kh_in (ρ 3 0 0 y2_2.toNatClampNeg) (kh_n ρ 14)) (kh_gd (kh_in (ρ 14 0 ((ρ 3 0 0 y2_2.toNatClampNeg).toNatClampNeg) 0) (kh_n ρ 6)) (kh_gd (kh_in x1_c2 (kh_n ρ 6)) (if (ρ 14 0 ((ρ 3 0 0 y2_2.toNatClampNeg).toNatClampNeg) 0) = x1_c2 then if (ρ 14 2 ((ρ 3 0 0 y2_2.toNatClampNeg).toNatClampNeg) 0) = 0 then if (ρ 0 8 0 0) < (ρ 14 1 ((ρ 3 0 0 y2_2.toNatClampNeg).toNatClampNeg) 0) then f_X4_bookingDue_L45 ρ x1_c2 y2_2 else some (.inr (.inl (ρ 3 0 0 y2_2.toNatClampNeg))) else f_X4_bookingDue_L45 ρ x1_c2 y2_2 else f_X4_bookingDue_L45 ρ x1_c2 y2_2))))
def f_X4_bookingDue_A2 (ρ : kh_S) (x1_c2 : Int32) : ((Int32) ⊕ (Unit)) → Option (Int32) := (Sum.elim (fun u : Int32 => f_X4_bookingDue_L43 ρ u) (fun u : Unit => f_X4_bookingDue_L51 ρ))
def f_X4_bookingDue (ρ : kh_S) (x1 : Int32) : Option (Int32) := kh_bd (kh_lp (fun a : Int32 => f_X4_bookingDue_B2 ρ x1 a) 9999 (0 : Int32)) (f_X4_bookingDue_A2 ρ x1)
set_option maxHeartbeats 4000000 in
set_option maxRecDepth 100000 in
theorem c_X4_bookingDue (l : Launch) (D : va_G) (ca : Nat → ClassId) (A : Nat → Prop) (ad : Nat → Nat → Nat) (ρ : kh_S) (x1 : Int32) {q0 : Int32} (hF0 : f_X4_bookingDue ρ x1 = some q0) : Met l yX4_bookingDue wsX4_bookingDue ({ frames := 0, cells := 0, slots := 0, locals := 0 } : Room) (va_Pc [.ref (ad 0 0), va_rf (kh_rc ad 6 x1)] (kh_I D ca A ad ρ)) (kh_Qq D ca A ad 14 (kh_pu (f_X4_bookingDue ρ x1) ρ)) 0 0 A := by
  refine Met.ofW (cc := cX4_bookingDue) (maxL := 4) (ret := (some (.object "KeylessHall$Booking"))) (by decide) rfl ?_
  intro p e s m args below meth c s₁ B hml hv
  obtain ⟨rfl, hK, hw, hA⟩ := hv
  have C : kh_C p s m ([.ref (ad 0 0), va_rf (kh_rc ad 6 x1)]).toArray c cX4_bookingDue 4 RX4 wsX4_bookingDue D ca A := ⟨B.exec, B.bytes, hml, findClass_of_methodNamed B.named, atoms_spec (ws := wsX4_bookingDue) B.pre, hK, hA⟩
  have hr := B.returns
  have hlocks := B.notSynchronized
  have hS : va_S A s.heap s.heap [] := va_S.rf
  have hl := kh_entry ([.ref (ad 0 0), va_rf (kh_rc ad 6 x1)]) (n := 4) (kh_ac rfl (kh_ac (kh_c1 _) kh_an)) (Nat.le_of_ble_eq_true rfl)
  rw [lg_entry_eq]
  generalize (lg_sl ([.ref (ad 0 0), va_rf (kh_rc ad 6 x1)]) ++ List.replicate (4 - (lg_sl ([.ref (ad 0 0), va_rf (kh_rc ad 6 x1)])).length) Slot.unset).toArray = ls at hl ⊢
  have hl : kh_lv ls 4 [(0, .ref (ad 0 0)), (1, va_rf (kh_rc ad 6 x1))] := hl
  have k_240 := C.2.2.2.2.1 (.fieldLink RX4 240 "KeylessHall" "bookingCount" "I") (by decide +kernel)
  have k_23 := C.2.2.2.2.1 (.fieldLink RX4 23 "KeylessHall" "bookings" "[LKeylessHall$Booking;") (by decide +kernel)
  have k_298 := C.2.2.2.2.1 (.fieldLink RX4 298 "KeylessHall$Booking" "place" "LKeylessHall$Room;") (by decide +kernel)
  have k_252 := C.2.2.2.2.1 (.fieldLink RX4 252 "KeylessHall$Booking" "how" "I") (by decide +kernel)
  have k_299 := C.2.2.2.2.1 (.fieldLink RX4 299 "KeylessHall$Booking" "begin" "I") (by decide +kernel)
  have k_231 := C.2.2.2.2.1 (.fieldLink RX4 231 "KeylessHall" "now" "I") (by decide +kernel)
  have hF := hF0
  unfold f_X4_bookingDue at hF
  have wL51 : ∀ (H : Heap) (locs : List Loc) (ls : Array Slot), f_X4_bookingDue_L51 ρ = some q0 → kh_w D ca A ad ρ H → va_S A s.heap H locs → kh_lv ls 4 [] → W p l e (headSpec wsX4_bookingDue ({ frames := 0, cells := 0, slots := 0, locals := 0 } : Room)).room s m ([.ref (ad 0 0), va_rf (kh_rc ad 6 x1)]).toArray below meth c H locs 0 0 (MQ below (kh_Qq D ca A ad 14 (kh_pu (f_X4_bookingDue ρ x1) ρ)) ([.ref (ad 0 0), va_rf (kh_rc ad 6 x1)]).toArray s 0 0 A) (F0 m 51 ls []) := by
    intro  H locs ls hF hw hS hl
    unfold f_X4_bookingDue_L51 at hF
    refine lv_null C.1 C.2.1 dX4_bookingDue_51 ?_
    exact W.aret (v := .null) C.1 C.2.1 hr (Or.inl ⟨_, rfl⟩) (Or.inl rfl) (fun t ht hW => ⟨⟨kh_rc ad 14 (-1), ((-1), ρ), rfl, ⟨rfl, kh_mp (hF0.trans hF.symm)⟩, kh_bk ht hw⟩, hS.F ht⟩) hS.2.2 dX4_bookingDue_52
  have wL43 : ∀ (x3_43 : Int32) (H : Heap) (locs : List Loc) (ls : Array Slot), f_X4_bookingDue_L43 ρ x3_43 = some q0 → kh_w D ca A ad ρ H → va_S A s.heap H locs → kh_lv ls 4 [(3, va_rf (kh_rc ad 14 x3_43))] → W p l e (headSpec wsX4_bookingDue ({ frames := 0, cells := 0, slots := 0, locals := 0 } : Room)).room s m ([.ref (ad 0 0), va_rf (kh_rc ad 6 x1)]).toArray below meth c H locs 0 0 (MQ below (kh_Qq D ca A ad 14 (kh_pu (f_X4_bookingDue ρ x1) ρ)) ([.ref (ad 0 0), va_rf (kh_rc ad 6 x1)]).toArray s 0 0 A) (F0 m 43 ls []) := by
    intro x3_43 H locs ls hF hw hS hl
    unfold f_X4_bookingDue_L43 at hF
    refine kh_aload_n C.1 C.2.1 dX4_bookingDue_43 rfl (kh_at hl 0 rfl) ?_
    exact W.aret (v := va_rf (kh_rc ad 14 x3_43)) C.1 C.2.1 hr (Or.inl ⟨_, rfl⟩) (va_rf_or _) (fun t ht hW => ⟨⟨kh_rc ad 14 x3_43, (x3_43, ρ), rfl, ⟨rfl, kh_mp (hF0.trans hF.symm)⟩, kh_bk ht hw⟩, hS.F ht⟩) hS.2.2 dX4_bookingDue_44
  have wB2 : ∀ (x1_c2 : Int32) (b : (Int32) ⊕ (Unit)), f_X4_bookingDue_A2 ρ x1_c2 b = some q0 → ∀ (n : Nat) (y2_2 : Int32) (H : Heap) (locs : List Loc) (ls : Array Slot), kh_lp (fun a : Int32 => f_X4_bookingDue_B2 ρ x1_c2 a) n y2_2 = some b → kh_w D ca A ad ρ H → va_S A s.heap H locs → kh_lv ls 4 [(0, .ref (ad 0 0)), (1, va_rf (kh_rc ad 6 x1_c2)), (2, .int y2_2)] → W p l e (headSpec wsX4_bookingDue ({ frames := 0, cells := 0, slots := 0, locals := 0 } : Room)).room s m ([.ref (ad 0 0), va_rf (kh_rc ad 6 x1)]).toArray below meth c H locs 0 0 (MQ below (kh_Qq D ca A ad 14 (kh_pu (f_X4_bookingDue ρ x1) ρ)) ([.ref (ad 0 0), va_rf (kh_rc ad 6 x1)]).toArray s 0 0 A) (F0 m 2 ls []) := by
    intro x1_c2 b hA_2 n
    induction n with
    | zero => intro y2_2 H locs ls h9; exact absurd h9 (fun z => nomatch z)
    | succ n ih_2 =>
      intro y2_2 H locs ls hb_2 hw hS hl
      obtain ⟨q_2, hF, hb_2⟩ := kh_lp_ok hb_2
      have hF : f_X4_bookingDue_B2 ρ x1_c2 y2_2 = some q_2 := hF
      have wL45 : ∀ (x2_45 : Int32) (H : Heap) (locs : List Loc) (ls : Array Slot), f_X4_bookingDue_L45 ρ x1_c2 x2_45 = some q_2 → kh_w D ca A ad ρ H → va_S A s.heap H locs → kh_lv ls 4 [(0, .ref (ad 0 0)), (1, va_rf (kh_rc ad 6 x1_c2)), (2, .int x2_45)] → W p l e (headSpec wsX4_bookingDue ({ frames := 0, cells := 0, slots := 0, locals := 0 } : Room)).room s m ([.ref (ad 0 0), va_rf (kh_rc ad 6 x1)]).toArray below meth c H locs 0 0 (MQ below (kh_Qq D ca A ad 14 (kh_pu (f_X4_bookingDue ρ x1) ρ)) ([.ref (ad 0 0), va_rf (kh_rc ad 6 x1)]).toArray s 0 0 A) (F0 m 45 ls []) := by
        intro x2_45 H locs ls hF hw hS hl
        unfold f_X4_bookingDue_L45 at hF
        refine kh_iinc (v := x2_45 + (1 : Int32)) (lv' := [(2, .int (x2_45 + (1 : Int32))), (0, .ref (ad 0 0)), (1, va_rf (kh_rc ad 6 x1_c2))]) C.1 C.2.1 dX4_bookingDue_45 hl (k := 2) rfl (by rfl) (by decide) rfl (fun ls hl => ?_)
        refine lv_goto (tgt := 2) C.1 C.2.1 dX4_bookingDue_48 (by decide) ?_
        have e9 := Option.some.inj hF
        rcases hb_2 with ⟨a9, h8, h9⟩ | h8
        · have h7 := Sum.inl.inj (e9.trans h8)
          subst h7
          exact ih_2 _ _ _ _ h9 hw hS (kh_sub hl [1, 2, 0] rfl)
        · exact absurd (e9.trans h8) (fun z => nomatch z)
      unfold f_X4_bookingDue_B2 at hF
      refine lv_iload_n C.1 C.2.1 dX4_bookingDue_2 rfl (kh_at hl 2 rfl) ?_
      refine lv_aload_n C.1 C.2.1 dX4_bookingDue_3 rfl (kh_at hl 0 rfl) ?_
      refine kh_get C hw 0 5 rfl (kh_z0 ρ) kh_kd0 (Cn := RX4) (T := TX4) (N := 10) rfl (Nat.le_of_ble_eq_true rfl) k_240 (kf_0_5 ad ρ 0) dX4_bookingDue_4 ?_
      refine lv_icmp_ge (tgt := 51) C.1 C.2.1 dX4_bookingDue_7 (by decide) (fun c_1 => ?_) (fun c_1 => ?_)
      · have hF := kh_ift hF c_1
        have e9 := Option.some.inj hF
        rcases hb_2 with ⟨a9, h8, h9⟩ | h8
        · exact absurd (e9.trans h8) (fun z => nomatch z)
        have h7 := Sum.inr.inj (e9.trans h8)
        have hF := (congrArg (f_X4_bookingDue_A2 ρ x1_c2) h7).trans hA_2
        exact wL51  _ _ _ hF hw hS (kh_sub hl [] rfl)
      · have hF := kh_iff hF c_1
        refine lv_aload_n C.1 C.2.1 dX4_bookingDue_10 rfl (kh_at hl 0 rfl) ?_
        refine kh_get C hw 0 4 rfl (kh_z0 ρ) kh_kd0 (Cn := RX4) (T := TX4) (N := 10) rfl (Nat.le_of_ble_eq_true rfl) k_23 (kf_0_4 ad ρ 0) dX4_bookingDue_11 ?_
        refine lv_iload_n C.1 C.2.1 dX4_bookingDue_14 rfl (kh_at hl 2 rfl) ?_
        obtain ⟨g_2, hF⟩ := kh_gd_ok hF
        refine kh_aald C hw 3 rfl (kh_z3 ρ) kh_kd3 kh_ty3 g_2 dX4_bookingDue_15 ?_
        refine kh_astore_n (lv' := [(3, va_rf (kh_rc ad 14 (ρ 3 0 0 y2_2.toNatClampNeg))), (0, .ref (ad 0 0)), (1, va_rf (kh_rc ad 6 x1_c2)), (2, .int y2_2)]) C.1 C.2.1 dX4_bookingDue_16 rfl hl (by decide) rfl (fun ls hl => ?_)
        refine kh_aload_n C.1 C.2.1 dX4_bookingDue_17 rfl (kh_at hl 0 rfl) ?_
        obtain ⟨g_3, hF⟩ := kh_gd_ok hF
        have v_4 := kh_in_lt g_3
        have r_5 := kh_rf (ad := ad) (k := 14) g_3
        refine kh_get C hw 14 0 r_5 v_4 kh_kd14 (Cn := RX0) (T := TX0) (N := 4) rfl (Nat.le_of_ble_eq_true rfl) k_298 (kf_14_0 ad ρ ((ρ 3 0 0 y2_2.toNatClampNeg).toNatClampNeg)) dX4_bookingDue_18 ?_
        refine kh_aload_n C.1 C.2.1 dX4_bookingDue_21 rfl (kh_at hl 2 rfl) ?_
        obtain ⟨g_7, hF⟩ := kh_gd_ok hF
        obtain ⟨g_8, hF⟩ := kh_gd_ok hF
        have v_9 := kh_in_lt g_7
        have r_10 := kh_rf (ad := ad) (k := 6) g_7
        have v_11 := kh_in_lt g_8
        have r_12 := kh_rf (ad := ad) (k := 6) g_8
        refine kh_acmp_ne (tgt := 45) C hw g_7 g_8 dX4_bookingDue_22 (by decide) (fun c_6 => ?_) (fun c_6 => ?_)
        · have hF := kh_iff hF c_6
          exact wL45 y2_2 _ _ _ hF hw hS (kh_sub hl [1, 2, 3] rfl)
        · have hF := kh_ift hF c_6
          refine kh_aload_n C.1 C.2.1 dX4_bookingDue_25 rfl (kh_at hl 0 rfl) ?_
          refine kh_get C hw 14 2 r_5 v_4 kh_kd14 (Cn := RX0) (T := TX0) (N := 4) rfl (Nat.le_of_ble_eq_true rfl) k_252 (kf_14_2 ad ρ ((ρ 3 0 0 y2_2.toNatClampNeg).toNatClampNeg)) dX4_bookingDue_26 ?_
          refine lv_if_ne (tgt := 45) C.1 C.2.1 dX4_bookingDue_29 (by decide) (fun c_13 => ?_) (fun c_13 => ?_)
          · have hF := kh_iff hF c_13
            exact wL45 y2_2 _ _ _ hF hw hS (kh_sub hl [1, 2, 3] rfl)
          · have hF := kh_ift hF c_13
            refine kh_aload_n C.1 C.2.1 dX4_bookingDue_32 rfl (kh_at hl 0 rfl) ?_
            refine kh_get C hw 14 1 r_5 v_4 kh_kd14 (Cn := RX0) (T := TX0) (N := 4) rfl (Nat.le_of_ble_eq_true rfl) k_299 (kf_14_1 ad ρ ((ρ 3 0 0 y2_2.toNatClampNeg).toNatClampNeg)) dX4_bookingDue_33 ?_
            refine lv_aload_n C.1 C.2.1 dX4_bookingDue_36 rfl (kh_at hl 1 rfl) ?_
            refine kh_get C hw 0 8 rfl (kh_z0 ρ) kh_kd0 (Cn := RX4) (T := TX4) (N := 10) rfl (Nat.le_of_ble_eq_true rfl) k_231 (kf_0_8 ad ρ 0) dX4_bookingDue_37 ?_
            refine lv_icmp_gt (tgt := 45) C.1 C.2.1 dX4_bookingDue_40 (by decide) (fun c_14 => ?_) (fun c_14 => ?_)
            · have hF := kh_ift hF c_14
              exact wL45 y2_2 _ _ _ hF hw hS (kh_sub hl [1, 2, 3] rfl)
            · have hF := kh_iff hF c_14
              have e9 := Option.some.inj hF
              rcases hb_2 with ⟨a9, h8, h9⟩ | h8
              · exact absurd (e9.trans h8) (fun z => nomatch z)
              have h7 := Sum.inr.inj (e9.trans h8)
              have hF := (congrArg (f_X4_bookingDue_A2 ρ x1_c2) h7).trans hA_2
              exact wL43 (ρ 3 0 0 y2_2.toNatClampNeg) _ _ _ hF hw hS (kh_sub hl [0] rfl)
  refine lv_iconst (v := (0 : Int32)) C.1 C.2.1 dX4_bookingDue_0 (by decide) ?_
  refine kh_istore_n (lv' := [(2, .int (0 : Int32)), (0, .ref (ad 0 0)), (1, va_rf (kh_rc ad 6 x1))]) C.1 C.2.1 dX4_bookingDue_1 rfl hl (by decide) rfl (fun ls hl => ?_)
  obtain ⟨b_2, hb_2, hF⟩ := kh_bd_ok hF
  exact wB2 x1 b_2 hF _ (0 : Int32) _ _ _ hb_2 hw hS (kh_sub hl [1, 2, 0] rfl)

def f_X4_isKeptForBooking_L56 (ρ : kh_S) : Option (Int32) := some (0 : Int32)
def f_X4_isKeptForBooking_L48 (ρ : kh_S) : Option (Int32) := some (1 : Int32)
def f_X4_isKeptForBooking_L50 (ρ : kh_S) (x1_c2 : Int32) (x2_50 : Int32) : Option ((Int32) ⊕ ((Unit) ⊕ (Unit))) := some (.inl (x2_50 + (1 : Int32)))
def f_X4_isKeptForBooking_B2 (ρ : kh_S) (x1_c2 : Int32) (y2_2 : Int32) : Option ((Int32) ⊕ ((Unit) ⊕ (Unit))) := if (ρ 0 5 0 0) ≤ y2_2 then some (.inr (.inr ())) else kh_gd (kh_in y2_2 30) (kh_gd (kh_in (ρ 3 0 0 y2_2.toNatClampNeg) (kh_n ρ 14)) (kh_gd (kh_in (ρ 14 0 ((ρ 3 0 0 y2_2.toNatClampNeg).toNatClampNeg) 0) (kh_n ρ 6)) (kh_gd (kh_in x1_c2 (kh_n ρ 6)) (if (ρ 14 0 ((ρ 3 0 0 y2_2.toNatClampNeg).toNatClampNeg) 0) = x1_c2 then if (ρ 14 2 ((ρ 3 0 0 y2_2.toNatClampNeg).toNatClampNeg) 0) = 0 then kh_bd (f_X4_bookingDistance ρ x1_c2) (fun r_14 => if r_14 ≤ ((ρ 14 1 ((ρ 3 0 0 y2_2.toNatClampNeg).toNatClampNeg) 0) - (ρ 0 8 0 0)) then f_X4_isKeptForBooking_L50 ρ x1_c2 y2_2 else some (.inr (.inl ()))) else f_X4_isKeptForBooking_L50 ρ x1_c2 y2_2 else f_X4_isKeptForBooking_L50 ρ x1_c2 y2_2))))
def f_X4_isKeptForBooking_A2 (ρ : kh_S) (x1_c2 : Int32) : ((Unit) ⊕ (Unit)) → Option (Int32) := (Sum.elim (fun u : Unit => f_X4_isKeptForBooking_L48 ρ) (fun u : Unit => f_X4_isKeptForBooking_L56 ρ))
def f_X4_isKeptForBooking (ρ : kh_S) (x1 : Int32) : Option (Int32) := kh_bd (kh_lp (fun a : Int32 => f_X4_isKeptForBooking_B2 ρ x1 a) 9999 (0 : Int32)) (f_X4_isKeptForBooking_A2 ρ x1)
set_option maxHeartbeats 4000000 in
set_option maxRecDepth 100000 in
theorem c_X4_isKeptForBooking (l : Launch) (D : va_G) (ca : Nat → ClassId) (A : Nat → Prop) (ad : Nat → Nat → Nat) (ρ : kh_S) (x1 : Int32) {q0 : Int32} (hF0 : f_X4_isKeptForBooking ρ x1 = some q0) : Met l yX4_isKeptForBooking wsX4_isKeptForBooking ({ frames := 1, cells := 0, slots := 0, locals := 20 } : Room) (va_Pc [.ref (ad 0 0), va_rf (kh_rc ad 6 x1)] (kh_I D ca A ad ρ)) (kh_Qi D ca A ad (kh_pu (f_X4_isKeptForBooking ρ x1) ρ)) 0 0 A := by
  refine Met.ofW (cc := cX4_isKeptForBooking) (maxL := 4) (ret := (some .boolean)) (by decide) rfl ?_
  intro p e s m args below meth c s₁ B hml hv
  obtain ⟨rfl, hK, hw, hA⟩ := hv
  have C : kh_C p s m ([.ref (ad 0 0), va_rf (kh_rc ad 6 x1)]).toArray c cX4_isKeptForBooking 4 RX4 wsX4_isKeptForBooking D ca A := ⟨B.exec, B.bytes, hml, findClass_of_methodNamed B.named, atoms_spec (ws := wsX4_isKeptForBooking) B.pre, hK, hA⟩
  have hr := B.returns
  have hlocks := B.notSynchronized
  have hS : va_S A s.heap s.heap [] := va_S.rf
  have hl := kh_entry ([.ref (ad 0 0), va_rf (kh_rc ad 6 x1)]) (n := 4) (kh_ac rfl (kh_ac (kh_c1 _) kh_an)) (Nat.le_of_ble_eq_true rfl)
  rw [lg_entry_eq]
  generalize (lg_sl ([.ref (ad 0 0), va_rf (kh_rc ad 6 x1)]) ++ List.replicate (4 - (lg_sl ([.ref (ad 0 0), va_rf (kh_rc ad 6 x1)])).length) Slot.unset).toArray = ls at hl ⊢
  have hl : kh_lv ls 4 [(0, .ref (ad 0 0)), (1, va_rf (kh_rc ad 6 x1))] := hl
  have k_240 := C.2.2.2.2.1 (.fieldLink RX4 240 "KeylessHall" "bookingCount" "I") (by decide +kernel)
  have k_23 := C.2.2.2.2.1 (.fieldLink RX4 23 "KeylessHall" "bookings" "[LKeylessHall$Booking;") (by decide +kernel)
  have k_298 := C.2.2.2.2.1 (.fieldLink RX4 298 "KeylessHall$Booking" "place" "LKeylessHall$Room;") (by decide +kernel)
  have k_252 := C.2.2.2.2.1 (.fieldLink RX4 252 "KeylessHall$Booking" "how" "I") (by decide +kernel)
  have k_299 := C.2.2.2.2.1 (.fieldLink RX4 299 "KeylessHall$Booking" "begin" "I") (by decide +kernel)
  have k_231 := C.2.2.2.2.1 (.fieldLink RX4 231 "KeylessHall" "now" "I") (by decide +kernel)
  have hF := hF0
  unfold f_X4_isKeptForBooking at hF
  have wL56 : ∀ (H : Heap) (locs : List Loc) (ls : Array Slot), f_X4_isKeptForBooking_L56 ρ = some q0 → kh_w D ca A ad ρ H → va_S A s.heap H locs → kh_lv ls 4 [] → W p l e (headSpec wsX4_isKeptForBooking ({ frames := 1, cells := 0, slots := 0, locals := 20 } : Room)).room s m ([.ref (ad 0 0), va_rf (kh_rc ad 6 x1)]).toArray below meth c H locs 0 0 (MQ below (kh_Qi D ca A ad (kh_pu (f_X4_isKeptForBooking ρ x1) ρ)) ([.ref (ad 0 0), va_rf (kh_rc ad 6 x1)]).toArray s 0 0 A) (F0 m 56 ls []) := by
    intro  H locs ls hF hw hS hl
    unfold f_X4_isKeptForBooking_L56 at hF
    refine lv_iconst (v := (0 : Int32)) C.1 C.2.1 dX4_isKeptForBooking_56 (by decide) ?_
    exact W.zret (v := (0 : Int32)) (ty := .boolean) C.1 C.2.1 hr rfl (fun t ht hW => ⟨⟨(0 : Int32), ρ, rfl, kh_mp (hF0.trans hF.symm), kh_bk ht hw⟩, hS.F ht⟩) hS.2.2 dX4_isKeptForBooking_57
  have wL48 : ∀ (H : Heap) (locs : List Loc) (ls : Array Slot), f_X4_isKeptForBooking_L48 ρ = some q0 → kh_w D ca A ad ρ H → va_S A s.heap H locs → kh_lv ls 4 [] → W p l e (headSpec wsX4_isKeptForBooking ({ frames := 1, cells := 0, slots := 0, locals := 20 } : Room)).room s m ([.ref (ad 0 0), va_rf (kh_rc ad 6 x1)]).toArray below meth c H locs 0 0 (MQ below (kh_Qi D ca A ad (kh_pu (f_X4_isKeptForBooking ρ x1) ρ)) ([.ref (ad 0 0), va_rf (kh_rc ad 6 x1)]).toArray s 0 0 A) (F0 m 48 ls []) := by
    intro  H locs ls hF hw hS hl
    unfold f_X4_isKeptForBooking_L48 at hF
    refine lv_iconst (v := (1 : Int32)) C.1 C.2.1 dX4_isKeptForBooking_48 (by decide) ?_
    exact W.zret (v := (1 : Int32)) (ty := .boolean) C.1 C.2.1 hr rfl (fun t ht hW => ⟨⟨(1 : Int32), ρ, rfl, kh_mp (hF0.trans hF.symm), kh_bk ht hw⟩, hS.F ht⟩) hS.2.2 dX4_isKeptForBooking_49
  have wB2 : ∀ (x1_c2 : Int32) (b : (Unit) ⊕ (Unit)), f_X4_isKeptForBooking_A2 ρ x1_c2 b = some q0 → ∀ (n : Nat) (y2_2 : Int32) (H : Heap) (locs : List Loc) (ls : Array Slot), kh_lp (fun a : Int32 => f_X4_isKeptForBooking_B2 ρ x1_c2 a) n y2_2 = some b → kh_w D ca A ad ρ H → va_S A s.heap H locs → kh_lv ls 4 [(0, .ref (ad 0 0)), (1, va_rf (kh_rc ad 6 x1_c2)), (2, .int y2_2)] → W p l e (headSpec wsX4_isKeptForBooking ({ frames := 1, cells := 0, slots := 0, locals := 20 } : Room)).room s m ([.ref (ad 0 0), va_rf (kh_rc ad 6 x1)]).toArray below meth c H locs 0 0 (MQ below (kh_Qi D ca A ad (kh_pu (f_X4_isKeptForBooking ρ x1) ρ)) ([.ref (ad 0 0), va_rf (kh_rc ad 6 x1)]).toArray s 0 0 A) (F0 m 2 ls []) := by
    intro x1_c2 b hA_2 n
    induction n with
    | zero => intro y2_2 H locs ls h9; exact absurd h9 (fun z => nomatch z)
    | succ n ih_2 =>
      intro y2_2 H locs ls hb_2 hw hS hl
      obtain ⟨q_2, hF, hb_2⟩ := kh_lp_ok hb_2
      have hF : f_X4_isKeptForBooking_B2 ρ x1_c2 y2_2 = some q_2 := hF
      have wL50 : ∀ (x2_50 : Int32) (H : Heap) (locs : List Loc) (ls : Array Slot), f_X4_isKeptForBooking_L50 ρ x1_c2 x2_50 = some q_2 → kh_w D ca A ad ρ H → va_S A s.heap H locs → kh_lv ls 4 [(0, .ref (ad 0 0)), (1, va_rf (kh_rc ad 6 x1_c2)), (2, .int x2_50)] → W p l e (headSpec wsX4_isKeptForBooking ({ frames := 1, cells := 0, slots := 0, locals := 20 } : Room)).room s m ([.ref (ad 0 0), va_rf (kh_rc ad 6 x1)]).toArray below meth c H locs 0 0 (MQ below (kh_Qi D ca A ad (kh_pu (f_X4_isKeptForBooking ρ x1) ρ)) ([.ref (ad 0 0), va_rf (kh_rc ad 6 x1)]).toArray s 0 0 A) (F0 m 50 ls []) := by
        intro x2_50 H locs ls hF hw hS hl
        unfold f_X4_isKeptForBooking_L50 at hF
        refine kh_iinc (v := x2_50 + (1 : Int32)) (lv' := [(2, .int (x2_50 + (1 : Int32))), (0, .ref (ad 0 0)), (1, va_rf (kh_rc ad 6 x1_c2))]) C.1 C.2.1 dX4_isKeptForBooking_50 hl (k := 2) rfl (by rfl) (by decide) rfl (fun ls hl => ?_)
        refine lv_goto (tgt := 2) C.1 C.2.1 dX4_isKeptForBooking_53 (by decide) ?_
        have e9 := Option.some.inj hF
        rcases hb_2 with ⟨a9, h8, h9⟩ | h8
        · have h7 := Sum.inl.inj (e9.trans h8)
          subst h7
          exact ih_2 _ _ _ _ h9 hw hS (kh_sub hl [1, 2, 0] rfl)
        · exact absurd (e9.trans h8) (fun z => nomatch z)
      unfold f_X4_isKeptForBooking_B2 at hF
      refine lv_iload_n C.1 C.2.1 dX4_isKeptForBooking_2 rfl (kh_at hl 2 rfl) ?_
      refine lv_aload_n C.1 C.2.1 dX4_isKeptForBooking_3 rfl (kh_at hl 0 rfl) ?_
      refine kh_get C hw 0 5 rfl (kh_z0 ρ) kh_kd0 (Cn := RX4) (T := TX4) (N := 10) rfl (Nat.le_of_ble_eq_true rfl) k_240 (kf_0_5 ad ρ 0) dX4_isKeptForBooking_4 ?_
      refine lv_icmp_ge (tgt := 56) C.1 C.2.1 dX4_isKeptForBooking_7 (by decide) (fun c_1 => ?_) (fun c_1 => ?_)
      · have hF := kh_ift hF c_1
        have e9 := Option.some.inj hF
        rcases hb_2 with ⟨a9, h8, h9⟩ | h8
        · exact absurd (e9.trans h8) (fun z => nomatch z)
        have h7 := Sum.inr.inj (e9.trans h8)
        have hF := (congrArg (f_X4_isKeptForBooking_A2 ρ x1_c2) h7).trans hA_2
        exact wL56  _ _ _ hF hw hS (kh_sub hl [] rfl)
      · have hF := kh_iff hF c_1
        refine lv_aload_n C.1 C.2.1 dX4_isKeptForBooking_10 rfl (kh_at hl 0 rfl) ?_
        refine kh_get C hw 0 4 rfl (kh_z0 ρ) kh_kd0 (Cn := RX4) (T := TX4) (N := 10) rfl (Nat.le_of_ble_eq_true rfl) k_23 (kf_0_4 ad ρ 0) dX4_isKeptForBooking_11 ?_
        refine lv_iload_n C.1 C.2.1 dX4_isKeptForBooking_14 rfl (kh_at hl 2 rfl) ?_
        obtain ⟨g_2, hF⟩ := kh_gd_ok hF
        refine kh_aald C hw 3 rfl (kh_z3 ρ) kh_kd3 kh_ty3 g_2 dX4_isKeptForBooking_15 ?_
        refine kh_astore_n (lv' := [(3, va_rf (kh_rc ad 14 (ρ 3 0 0 y2_2.toNatClampNeg))), (0, .ref (ad 0 0)), (1, va_rf (kh_rc ad 6 x1_c2)), (2, .int y2_2)]) C.1 C.2.1 dX4_isKeptForBooking_16 rfl hl (by decide) rfl (fun ls hl => ?_)
        refine kh_aload_n C.1 C.2.1 dX4_isKeptForBooking_17 rfl (kh_at hl 0 rfl) ?_
        obtain ⟨g_3, hF⟩ := kh_gd_ok hF
        have v_4 := kh_in_lt g_3
        have r_5 := kh_rf (ad := ad) (k := 14) g_3
        refine kh_get C hw 14 0 r_5 v_4 kh_kd14 (Cn := RX0) (T := TX0) (N := 4) rfl (Nat.le_of_ble_eq_true rfl) k_298 (kf_14_0 ad ρ ((ρ 3 0 0 y2_2.toNatClampNeg).toNatClampNeg)) dX4_isKeptForBooking_18 ?_
        refine kh_aload_n C.1 C.2.1 dX4_isKeptForBooking_21 rfl (kh_at hl 2 rfl) ?_
        obtain ⟨g_7, hF⟩ := kh_gd_ok hF
        obtain ⟨g_8, hF⟩ := kh_gd_ok hF
        have v_9 := kh_in_lt g_7
        have r_10 := kh_rf (ad := ad) (k := 6) g_7
        have v_11 := kh_in_lt g_8
        have r_12 := kh_rf (ad := ad) (k := 6) g_8
        refine kh_acmp_ne (tgt := 50) C hw g_7 g_8 dX4_isKeptForBooking_22 (by decide) (fun c_6 => ?_) (fun c_6 => ?_)
        · have hF := kh_iff hF c_6
          exact wL50 y2_2 _ _ _ hF hw hS (kh_sub hl [1, 2, 3] rfl)
        · have hF := kh_ift hF c_6
          refine kh_aload_n C.1 C.2.1 dX4_isKeptForBooking_25 rfl (kh_at hl 0 rfl) ?_
          refine kh_get C hw 14 2 r_5 v_4 kh_kd14 (Cn := RX0) (T := TX0) (N := 4) rfl (Nat.le_of_ble_eq_true rfl) k_252 (kf_14_2 ad ρ ((ρ 3 0 0 y2_2.toNatClampNeg).toNatClampNeg)) dX4_isKeptForBooking_26 ?_
          refine lv_if_ne (tgt := 50) C.1 C.2.1 dX4_isKeptForBooking_29 (by decide) (fun c_13 => ?_) (fun c_13 => ?_)
          · have hF := kh_iff hF c_13
            exact wL50 y2_2 _ _ _ hF hw hS (kh_sub hl [1, 2, 3] rfl)
          · have hF := kh_ift hF c_13
            refine kh_aload_n C.1 C.2.1 dX4_isKeptForBooking_32 rfl (kh_at hl 0 rfl) ?_
            refine kh_get C hw 14 1 r_5 v_4 kh_kd14 (Cn := RX0) (T := TX0) (N := 4) rfl (Nat.le_of_ble_eq_true rfl) k_299 (kf_14_1 ad ρ ((ρ 3 0 0 y2_2.toNatClampNeg).toNatClampNeg)) dX4_isKeptForBooking_33 ?_
            refine lv_aload_n C.1 C.2.1 dX4_isKeptForBooking_36 rfl (kh_at hl 1 rfl) ?_
            refine kh_get C hw 0 8 rfl (kh_z0 ρ) kh_kd0 (Cn := RX4) (T := TX4) (N := 10) rfl (Nat.le_of_ble_eq_true rfl) k_231 (kf_0_8 ad ρ 0) dX4_isKeptForBooking_37 ?_
            refine lv_isub C.1 C.2.1 dX4_isKeptForBooking_40 ?_
            refine kh_aload_n C.1 C.2.1 dX4_isKeptForBooking_41 rfl (kh_at hl 2 rfl) ?_
            obtain ⟨r_14, h_14, hF⟩ := kh_bd_ok hF
            refine kh_calli (va_runS (As := [va_rf (kh_rc ad 6 x1_c2)]) (rest := [.int ((ρ 14 1 ((ρ 3 0 0 y2_2.toNatClampNeg).toNatClampNeg) 0) - (ρ 0 8 0 0))]) ⟨C.1, C.2.1, C.2.2.1, C.2.2.2.1, C.2.2.2.2.1⟩ (c_X4_bookingDistance l D ca A ad ρ x1_c2 h_14) (va_cwS 1 C.2.2.2.2.1 gX4_isKeptForBooking_X4_bookingDistance rfl rfl rfl (by decide +kernel) ⟨Nat.le_of_ble_eq_true rfl, Nat.le_of_ble_eq_true rfl⟩) (kh_preS C hw hS) rfl rfl hl.1.1 rfl (lv_room (kh_sum (kh_ac rfl kh_an) (Nat.le_of_ble_eq_true rfl))) dX4_isKeptForBooking_42 ⟨Nat.le_of_ble_eq_true rfl, Nat.le_of_ble_eq_true rfl⟩) hS (kh_mp h_14) (fun H locs hw hS => ?_)
            refine lv_icmp_ge (tgt := 50) C.1 C.2.1 dX4_isKeptForBooking_45 (by decide) (fun c_15 => ?_) (fun c_15 => ?_)
            · have hF := kh_ift hF c_15
              exact wL50 y2_2 _ _ _ hF hw hS (kh_sub hl [1, 2, 3] rfl)
            · have hF := kh_iff hF c_15
              have e9 := Option.some.inj hF
              rcases hb_2 with ⟨a9, h8, h9⟩ | h8
              · exact absurd (e9.trans h8) (fun z => nomatch z)
              have h7 := Sum.inr.inj (e9.trans h8)
              have hF := (congrArg (f_X4_isKeptForBooking_A2 ρ x1_c2) h7).trans hA_2
              exact wL48  _ _ _ hF hw hS (kh_sub hl [] rfl)
  refine lv_iconst (v := (0 : Int32)) C.1 C.2.1 dX4_isKeptForBooking_0 (by decide) ?_
  refine kh_istore_n (lv' := [(2, .int (0 : Int32)), (0, .ref (ad 0 0)), (1, va_rf (kh_rc ad 6 x1))]) C.1 C.2.1 dX4_isKeptForBooking_1 rfl hl (by decide) rfl (fun ls hl => ?_)
  obtain ⟨b_2, hb_2, hF⟩ := kh_bd_ok hF
  exact wB2 x1 b_2 hF _ (0 : Int32) _ _ _ hb_2 hw hS (kh_sub hl [1, 2, 0] rfl)

def f_X4_bookingTooNear_L62 (ρ : kh_S) : Option (Int32) := some (-1)
def f_X4_bookingTooNear_L53 (ρ : kh_S) (x4_53 : Int32) : Option (Int32) := some x4_53
def f_X4_bookingTooNear_L56 (ρ : kh_S) (x1_c2 : Int32) (x2_c2 : Int32) (x3_56 : Int32) : Option ((Int32) ⊕ ((Int32) ⊕ (Unit))) := some (.inl (x3_56 + (1 : Int32)))
def f_X4_bookingTooNear_B2 (ρ : kh_S) (x1_c2 : Int32) (x2_c2 : Int32) (y3_2 : Int32) : Option ((Int32) ⊕ ((Int32) ⊕ (Unit))) := if (ρ 0 5 0 0) ≤ y3_2 then some (.inr (.inr ())) else kh_gd (kh_in y3_2 30) (kh_gd (kh_in (ρ 3 0 0 y3_2.toNatClampNeg) (kh_n ρ 14)) (kh_gd (kh_in (ρ 14 0 ((ρ 3 0 0 y3_2.toNatClampNeg).toNatClampNeg) 0) (kh_n ρ 6)) (kh_gd (kh_in x1_c2 (kh_n ρ 6)) (if (ρ 14 0 ((ρ 3 0 0 y3_2.toNatClampNeg).toNatClampNeg) 0) = x1_c2 then if (ρ 14 2 ((ρ 3 0 0 y3_2.toNatClampNeg).toNatClampNeg) 0) = (2 : Int32) then f_X4_bookingTooNear_L56 ρ x1_c2 x2_c2 y3_2 else kh_bd (f_X4_bookingDistance ρ x1_c2) (fun r_14 => if r_14 ≤ (if 0 ≤ ((ρ 14 1 ((ρ 3 0 0 y3_2.toNatClampNeg).toNatClampNeg) 0) - x2_c2) then ((ρ 14 1 ((ρ 3 0 0 y3_2.toNatClampNeg).toNatClampNeg) 0) - x2_c2) else 0 - ((ρ 14 1 ((ρ 3 0 0 y3_2.toNatClampNeg).toNatClampNeg) 0) - x2_c2)) then f_X4_bookingTooNear_L56 ρ x1_c2 x2_c2 y3_2 else some (.inr (.inl (ρ 3 0 0 y3_2.toNatClampNeg)))) else f_X4_bookingTooNear_L56 ρ x1_c2 x2_c2 y3_2))))
def f_X4_bookingTooNear_A2 (ρ : kh_S) (x1_c2 : Int32) (x2_c2 : Int32) : ((Int32) ⊕ (Unit)) → Option (Int32) := (Sum.elim (fun u : Int32 => f_X4_bookingTooNear_L53 ρ u) (fun u : Unit => f_X4_bookingTooNear_L62 ρ))
def f_X4_bookingTooNear (ρ : kh_S) (x1 : Int32) (x2 : Int32) : Option (Int32) := kh_bd (kh_lp (fun a : Int32 => f_X4_bookingTooNear_B2 ρ x1 x2 a) 9999 (0 : Int32)) (f_X4_bookingTooNear_A2 ρ x1 x2)
set_option maxHeartbeats 4000000 in
set_option maxRecDepth 100000 in
theorem c_X4_bookingTooNear (l : Launch) (D : va_G) (ca : Nat → ClassId) (A : Nat → Prop) (ad : Nat → Nat → Nat) (ρ : kh_S) (x1 : Int32) (x2 : Int32) {q0 : Int32} (hF0 : f_X4_bookingTooNear ρ x1 x2 = some q0) : Met l yX4_bookingTooNear wsX4_bookingTooNear ({ frames := 1, cells := 0, slots := 0, locals := 20 } : Room) (va_Pc [.ref (ad 0 0), va_rf (kh_rc ad 6 x1), .int x2] (kh_I D ca A ad ρ)) (kh_Qq D ca A ad 14 (kh_pu (f_X4_bookingTooNear ρ x1 x2) ρ)) 0 0 A := by
  refine Met.ofW (cc := cX4_bookingTooNear) (maxL := 5) (ret := (some (.object "KeylessHall$Booking"))) (by decide) rfl ?_
  intro p e s m args below meth c s₁ B hml hv
  obtain ⟨rfl, hK, hw, hA⟩ := hv
  have C : kh_C p s m ([.ref (ad 0 0), va_rf (kh_rc ad 6 x1), .int x2]).toArray c cX4_bookingTooNear 5 RX4 wsX4_bookingTooNear D ca A := ⟨B.exec, B.bytes, hml, findClass_of_methodNamed B.named, atoms_spec (ws := wsX4_bookingTooNear) B.pre, hK, hA⟩
  have hr := B.returns
  have hlocks := B.notSynchronized
  have hS : va_S A s.heap s.heap [] := va_S.rf
  have hl := kh_entry ([.ref (ad 0 0), va_rf (kh_rc ad 6 x1), .int x2]) (n := 5) (kh_ac rfl (kh_ac (kh_c1 _) (kh_ac rfl kh_an))) (Nat.le_of_ble_eq_true rfl)
  rw [lg_entry_eq]
  generalize (lg_sl ([.ref (ad 0 0), va_rf (kh_rc ad 6 x1), .int x2]) ++ List.replicate (5 - (lg_sl ([.ref (ad 0 0), va_rf (kh_rc ad 6 x1), .int x2])).length) Slot.unset).toArray = ls at hl ⊢
  have hl : kh_lv ls 5 [(0, .ref (ad 0 0)), (1, va_rf (kh_rc ad 6 x1)), (2, .int x2)] := hl
  have k_240 := C.2.2.2.2.1 (.fieldLink RX4 240 "KeylessHall" "bookingCount" "I") (by decide +kernel)
  have k_23 := C.2.2.2.2.1 (.fieldLink RX4 23 "KeylessHall" "bookings" "[LKeylessHall$Booking;") (by decide +kernel)
  have k_298 := C.2.2.2.2.1 (.fieldLink RX4 298 "KeylessHall$Booking" "place" "LKeylessHall$Room;") (by decide +kernel)
  have k_252 := C.2.2.2.2.1 (.fieldLink RX4 252 "KeylessHall$Booking" "how" "I") (by decide +kernel)
  have k_299 := C.2.2.2.2.1 (.fieldLink RX4 299 "KeylessHall$Booking" "begin" "I") (by decide +kernel)
  have hF := hF0
  unfold f_X4_bookingTooNear at hF
  have wL62 : ∀ (H : Heap) (locs : List Loc) (ls : Array Slot), f_X4_bookingTooNear_L62 ρ = some q0 → kh_w D ca A ad ρ H → va_S A s.heap H locs → kh_lv ls 5 [] → W p l e (headSpec wsX4_bookingTooNear ({ frames := 1, cells := 0, slots := 0, locals := 20 } : Room)).room s m ([.ref (ad 0 0), va_rf (kh_rc ad 6 x1), .int x2]).toArray below meth c H locs 0 0 (MQ below (kh_Qq D ca A ad 14 (kh_pu (f_X4_bookingTooNear ρ x1 x2) ρ)) ([.ref (ad 0 0), va_rf (kh_rc ad 6 x1), .int x2]).toArray s 0 0 A) (F0 m 62 ls []) := by
    intro  H locs ls hF hw hS hl
    unfold f_X4_bookingTooNear_L62 at hF
    refine lv_null C.1 C.2.1 dX4_bookingTooNear_62 ?_
    exact W.aret (v := .null) C.1 C.2.1 hr (Or.inl ⟨_, rfl⟩) (Or.inl rfl) (fun t ht hW => ⟨⟨kh_rc ad 14 (-1), ((-1), ρ), rfl, ⟨rfl, kh_mp (hF0.trans hF.symm)⟩, kh_bk ht hw⟩, hS.F ht⟩) hS.2.2 dX4_bookingTooNear_63
  have wL53 : ∀ (x4_53 : Int32) (H : Heap) (locs : List Loc) (ls : Array Slot), f_X4_bookingTooNear_L53 ρ x4_53 = some q0 → kh_w D ca A ad ρ H → va_S A s.heap H locs → kh_lv ls 5 [(4, va_rf (kh_rc ad 14 x4_53))] → W p l e (headSpec wsX4_bookingTooNear ({ frames := 1, cells := 0, slots := 0, locals := 20 } : Room)).room s m ([.ref (ad 0 0), va_rf (kh_rc ad 6 x1), .int x2]).toArray below meth c H locs 0 0 (MQ below (kh_Qq D ca A ad 14 (kh_pu (f_X4_bookingTooNear ρ x1 x2) ρ)) ([.ref (ad 0 0), va_rf (kh_rc ad 6 x1), .int x2]).toArray s 0 0 A) (F0 m 53 ls []) := by
    intro x4_53 H locs ls hF hw hS hl
    unfold f_X4_bookingTooNear_L53 at hF
    refine kh_aload C.1 C.2.1 dX4_bookingTooNear_53 (kh_at hl 0 rfl) ?_
    exact W.aret (v := va_rf (kh_rc ad 14 x4_53)) C.1 C.2.1 hr (Or.inl ⟨_, rfl⟩) (va_rf_or _) (fun t ht hW => ⟨⟨kh_rc ad 14 x4_53, (x4_53, ρ), rfl, ⟨rfl, kh_mp (hF0.trans hF.symm)⟩, kh_bk ht hw⟩, hS.F ht⟩) hS.2.2 dX4_bookingTooNear_55
  have wB2 : ∀ (x1_c2 : Int32) (x2_c2 : Int32) (b : (Int32) ⊕ (Unit)), f_X4_bookingTooNear_A2 ρ x1_c2 x2_c2 b = some q0 → ∀ (n : Nat) (y3_2 : Int32) (H : Heap) (locs : List Loc) (ls : Array Slot), kh_lp (fun a : Int32 => f_X4_bookingTooNear_B2 ρ x1_c2 x2_c2 a) n y3_2 = some b → kh_w D ca A ad ρ H → va_S A s.heap H locs → kh_lv ls 5 [(0, .ref (ad 0 0)), (1, va_rf (kh_rc ad 6 x1_c2)), (2, .int x2_c2), (3, .int y3_2)] → W p l e (headSpec wsX4_bookingTooNear ({ frames := 1, cells := 0, slots := 0, locals := 20 } : Room)).room s m ([.ref (ad 0 0), va_rf (kh_rc ad 6 x1), .int x2]).toArray below meth c H locs 0 0 (MQ below (kh_Qq D ca A ad 14 (kh_pu (f_X4_bookingTooNear ρ x1 x2) ρ)) ([.ref (ad 0 0), va_rf (kh_rc ad 6 x1), .int x2]).toArray s 0 0 A) (F0 m 2 ls []) := by
    intro x1_c2 x2_c2 b hA_2 n
    induction n with
    | zero => intro y3_2 H locs ls h9; exact absurd h9 (fun z => nomatch z)
    | succ n ih_2 =>
      intro y3_2 H locs ls hb_2 hw hS hl
      obtain ⟨q_2, hF, hb_2⟩ := kh_lp_ok hb_2
      have hF : f_X4_bookingTooNear_B2 ρ x1_c2 x2_c2 y3_2 = some q_2 := hF
      have wL56 : ∀ (x3_56 : Int32) (H : Heap) (locs : List Loc) (ls : Array Slot), f_X4_bookingTooNear_L56 ρ x1_c2 x2_c2 x3_56 = some q_2 → kh_w D ca A ad ρ H → va_S A s.heap H locs → kh_lv ls 5 [(0, .ref (ad 0 0)), (1, va_rf (kh_rc ad 6 x1_c2)), (2, .int x2_c2), (3, .int x3_56)] → W p l e (headSpec wsX4_bookingTooNear ({ frames := 1, cells := 0, slots := 0, locals := 20 } : Room)).room s m ([.ref (ad 0 0), va_rf (kh_rc ad 6 x1), .int x2]).toArray below meth c H locs 0 0 (MQ below (kh_Qq D ca A ad 14 (kh_pu (f_X4_bookingTooNear ρ x1 x2) ρ)) ([.ref (ad 0 0), va_rf (kh_rc ad 6 x1), .int x2]).toArray s 0 0 A) (F0 m 56 ls []) := by
        intro x3_56 H locs ls hF hw hS hl
        unfold f_X4_bookingTooNear_L56 at hF
        refine kh_iinc (v := x3_56 + (1 : Int32)) (lv' := [(3, .int (x3_56 + (1 : Int32))), (0, .ref (ad 0 0)), (1, va_rf (kh_rc ad 6 x1_c2)), (2, .int x2_c2)]) C.1 C.2.1 dX4_bookingTooNear_56 hl (k := 3) rfl (by rfl) (by decide) rfl (fun ls hl => ?_)
        refine lv_goto (tgt := 2) C.1 C.2.1 dX4_bookingTooNear_59 (by decide) ?_
        have e9 := Option.some.inj hF
        rcases hb_2 with ⟨a9, h8, h9⟩ | h8
        · have h7 := Sum.inl.inj (e9.trans h8)
          subst h7
          exact ih_2 _ _ _ _ h9 hw hS (kh_sub hl [1, 2, 3, 0] rfl)
        · exact absurd (e9.trans h8) (fun z => nomatch z)
      unfold f_X4_bookingTooNear_B2 at hF
      refine lv_iload_n C.1 C.2.1 dX4_bookingTooNear_2 rfl (kh_at hl 3 rfl) ?_
      refine lv_aload_n C.1 C.2.1 dX4_bookingTooNear_3 rfl (kh_at hl 0 rfl) ?_
      refine kh_get C hw 0 5 rfl (kh_z0 ρ) kh_kd0 (Cn := RX4) (T := TX4) (N := 10) rfl (Nat.le_of_ble_eq_true rfl) k_240 (kf_0_5 ad ρ 0) dX4_bookingTooNear_4 ?_
      refine lv_icmp_ge (tgt := 62) C.1 C.2.1 dX4_bookingTooNear_7 (by decide) (fun c_1 => ?_) (fun c_1 => ?_)
      · have hF := kh_ift hF c_1
        have e9 := Option.some.inj hF
        rcases hb_2 with ⟨a9, h8, h9⟩ | h8
        · exact absurd (e9.trans h8) (fun z => nomatch z)
        have h7 := Sum.inr.inj (e9.trans h8)
        have hF := (congrArg (f_X4_bookingTooNear_A2 ρ x1_c2 x2_c2) h7).trans hA_2
        exact wL62  _ _ _ hF hw hS (kh_sub hl [] rfl)
      · have hF := kh_iff hF c_1
        refine lv_aload_n C.1 C.2.1 dX4_bookingTooNear_10 rfl (kh_at hl 0 rfl) ?_
        refine kh_get C hw 0 4 rfl (kh_z0 ρ) kh_kd0 (Cn := RX4) (T := TX4) (N := 10) rfl (Nat.le_of_ble_eq_true rfl) k_23 (kf_0_4 ad ρ 0) dX4_bookingTooNear_11 ?_
        refine lv_iload_n C.1 C.2.1 dX4_bookingTooNear_14 rfl (kh_at hl 3 rfl) ?_
        obtain ⟨g_2, hF⟩ := kh_gd_ok hF
        refine kh_aald C hw 3 rfl (kh_z3 ρ) kh_kd3 kh_ty3 g_2 dX4_bookingTooNear_15 ?_
        refine kh_astore (lv' := [(4, va_rf (kh_rc ad 14 (ρ 3 0 0 y3_2.toNatClampNeg))), (0, .ref (ad 0 0)), (1, va_rf (kh_rc ad 6 x1_c2)), (2, .int x2_c2), (3, .int y3_2)]) C.1 C.2.1 dX4_bookingTooNear_16 hl (by decide) rfl (fun ls hl => ?_)
        refine kh_aload C.1 C.2.1 dX4_bookingTooNear_18 (kh_at hl 0 rfl) ?_
        obtain ⟨g_3, hF⟩ := kh_gd_ok hF
        have v_4 := kh_in_lt g_3
        have r_5 := kh_rf (ad := ad) (k := 14) g_3
        refine kh_get C hw 14 0 r_5 v_4 kh_kd14 (Cn := RX0) (T := TX0) (N := 4) rfl (Nat.le_of_ble_eq_true rfl) k_298 (kf_14_0 ad ρ ((ρ 3 0 0 y3_2.toNatClampNeg).toNatClampNeg)) dX4_bookingTooNear_20 ?_
        refine kh_aload_n C.1 C.2.1 dX4_bookingTooNear_23 rfl (kh_at hl 2 rfl) ?_
        obtain ⟨g_7, hF⟩ := kh_gd_ok hF
        obtain ⟨g_8, hF⟩ := kh_gd_ok hF
        have v_9 := kh_in_lt g_7
        have r_10 := kh_rf (ad := ad) (k := 6) g_7
        have v_11 := kh_in_lt g_8
        have r_12 := kh_rf (ad := ad) (k := 6) g_8
        refine kh_acmp_ne (tgt := 56) C hw g_7 g_8 dX4_bookingTooNear_24 (by decide) (fun c_6 => ?_) (fun c_6 => ?_)
        · have hF := kh_iff hF c_6
          exact wL56 y3_2 _ _ _ hF hw hS (kh_sub hl [1, 2, 3, 4] rfl)
        · have hF := kh_ift hF c_6
          refine kh_aload C.1 C.2.1 dX4_bookingTooNear_27 (kh_at hl 0 rfl) ?_
          refine kh_get C hw 14 2 r_5 v_4 kh_kd14 (Cn := RX0) (T := TX0) (N := 4) rfl (Nat.le_of_ble_eq_true rfl) k_252 (kf_14_2 ad ρ ((ρ 3 0 0 y3_2.toNatClampNeg).toNatClampNeg)) dX4_bookingTooNear_29 ?_
          refine lv_iconst (v := (2 : Int32)) C.1 C.2.1 dX4_bookingTooNear_32 (by decide) ?_
          refine lv_icmp_eq (tgt := 56) C.1 C.2.1 dX4_bookingTooNear_33 (by decide) (fun c_13 => ?_) (fun c_13 => ?_)
          · have hF := kh_ift hF c_13
            exact wL56 y3_2 _ _ _ hF hw hS (kh_sub hl [1, 2, 3, 4] rfl)
          · have hF := kh_iff hF c_13
            refine kh_aload C.1 C.2.1 dX4_bookingTooNear_36 (kh_at hl 0 rfl) ?_
            refine kh_get C hw 14 1 r_5 v_4 kh_kd14 (Cn := RX0) (T := TX0) (N := 4) rfl (Nat.le_of_ble_eq_true rfl) k_299 (kf_14_1 ad ρ ((ρ 3 0 0 y3_2.toNatClampNeg).toNatClampNeg)) dX4_bookingTooNear_38 ?_
            refine lv_iload_n C.1 C.2.1 dX4_bookingTooNear_41 rfl (kh_at hl 3 rfl) ?_
            refine lv_isub C.1 C.2.1 dX4_bookingTooNear_42 ?_
            refine va_mabs (own := RX4) C.1 C.2.1 (C.2.2.1.trans hl.1.1.symm) C.2.2.2.1 (C.2.2.2.2.1 (.methodLink RX4 351 Lib.Math.abs.name) (by decide +kernel)) (C.2.2.2.2.1 (.static Lib.Math.abs.name) (by decide +kernel)) (C.2.2.2.2.1 (.initialized "java/lang/Math") (by decide +kernel)) (C.2.2.2.2.1 (.code Lib.Math.abs.name Lib.Math.abs.code 1 (some .int)) (by decide +kernel)) (Nat.le_of_ble_eq_true rfl) (Nat.le_of_ble_eq_true rfl) (Nat.le_of_ble_eq_true rfl) (Nat.le_of_ble_eq_true rfl) dX4_bookingTooNear_43 ?_
            refine kh_aload_n C.1 C.2.1 dX4_bookingTooNear_46 rfl (kh_at hl 2 rfl) ?_
            obtain ⟨r_14, h_14, hF⟩ := kh_bd_ok hF
            refine kh_calli (va_runS (As := [va_rf (kh_rc ad 6 x1_c2)]) (rest := [.int (if 0 ≤ ((ρ 14 1 ((ρ 3 0 0 y3_2.toNatClampNeg).toNatClampNeg) 0) - x2_c2) then ((ρ 14 1 ((ρ 3 0 0 y3_2.toNatClampNeg).toNatClampNeg) 0) - x2_c2) else 0 - ((ρ 14 1 ((ρ 3 0 0 y3_2.toNatClampNeg).toNatClampNeg) 0) - x2_c2))]) ⟨C.1, C.2.1, C.2.2.1, C.2.2.2.1, C.2.2.2.2.1⟩ (c_X4_bookingDistance l D ca A ad ρ x1_c2 h_14) (va_cwS 1 C.2.2.2.2.1 gX4_bookingTooNear_X4_bookingDistance rfl rfl rfl (by decide +kernel) ⟨Nat.le_of_ble_eq_true rfl, Nat.le_of_ble_eq_true rfl⟩) (kh_preS C hw hS) rfl rfl hl.1.1 rfl (lv_room (kh_sum (kh_ac rfl kh_an) (Nat.le_of_ble_eq_true rfl))) dX4_bookingTooNear_47 ⟨Nat.le_of_ble_eq_true rfl, Nat.le_of_ble_eq_true rfl⟩) hS (kh_mp h_14) (fun H locs hw hS => ?_)
            refine lv_icmp_ge (tgt := 56) C.1 C.2.1 dX4_bookingTooNear_50 (by decide) (fun c_15 => ?_) (fun c_15 => ?_)
            · have hF := kh_ift hF c_15
              exact wL56 y3_2 _ _ _ hF hw hS (kh_sub hl [1, 2, 3, 4] rfl)
            · have hF := kh_iff hF c_15
              have e9 := Option.some.inj hF
              rcases hb_2 with ⟨a9, h8, h9⟩ | h8
              · exact absurd (e9.trans h8) (fun z => nomatch z)
              have h7 := Sum.inr.inj (e9.trans h8)
              have hF := (congrArg (f_X4_bookingTooNear_A2 ρ x1_c2 x2_c2) h7).trans hA_2
              exact wL53 (ρ 3 0 0 y3_2.toNatClampNeg) _ _ _ hF hw hS (kh_sub hl [0] rfl)
  refine lv_iconst (v := (0 : Int32)) C.1 C.2.1 dX4_bookingTooNear_0 (by decide) ?_
  refine kh_istore_n (lv' := [(3, .int (0 : Int32)), (0, .ref (ad 0 0)), (1, va_rf (kh_rc ad 6 x1)), (2, .int x2)]) C.1 C.2.1 dX4_bookingTooNear_1 rfl hl (by decide) rfl (fun ls hl => ?_)
  obtain ⟨b_2, hb_2, hF⟩ := kh_bd_ok hF
  exact wB2 x1 x2 b_2 hF _ (0 : Int32) _ _ _ hb_2 hw hS (kh_sub hl [1, 2, 3, 0] rfl)

def f_X4_firstFree_L46 (ρ : kh_S) (x3_46 : Int32) : Option (Int32) := some x3_46
def f_X4_firstFree_L27 (ρ : kh_S) (x3_27 : Int32) : Option (Int32) := some x3_27
def f_X4_firstFree_B5 (ρ : kh_S) (x1_c5 : Int32) (y3_5 : Int32) (y4_5 : Int32) : Option ((Int32 × Int32) ⊕ ((Int32) ⊕ (Int32))) := if (ρ 0 5 0 0) ≤ y4_5 then some (.inr (.inr y3_5)) else kh_bd (f_X4_bookingTooNear ρ x1_c5 y3_5) (fun r_2 => if r_2 < 0 then some (.inr (.inl y3_5)) else kh_gd (kh_in r_2 (kh_n ρ 14)) (kh_bd (f_X4_bookingDistance ρ x1_c5) (fun r_7 => some (.inl ((ρ 14 1 r_2.toNatClampNeg 0) + r_7, y4_5 + (1 : Int32))))))
def f_X4_firstFree_A5 (ρ : kh_S) (x1_c5 : Int32) : ((Int32) ⊕ (Int32)) → Option (Int32) := (Sum.elim (fun u : Int32 => f_X4_firstFree_L27 ρ u) (fun u : Int32 => f_X4_firstFree_L46 ρ u))
def f_X4_firstFree (ρ : kh_S) (x1 : Int32) (x2 : Int32) : Option (Int32) := kh_bd (kh_lp (fun a : Int32 × Int32 => f_X4_firstFree_B5 ρ x1 a.1 a.2) 9999 (x2, (0 : Int32))) (f_X4_firstFree_A5 ρ x1)
set_option maxHeartbeats 4000000 in
set_option maxRecDepth 100000 in
theorem c_X4_firstFree (l : Launch) (D : va_G) (ca : Nat → ClassId) (A : Nat → Prop) (ad : Nat → Nat → Nat) (ρ : kh_S) (x1 : Int32) (x2 : Int32) {q0 : Int32} (hF0 : f_X4_firstFree ρ x1 x2 = some q0) : Met l yX4_firstFree wsX4_firstFree ({ frames := 2, cells := 0, slots := 0, locals := 44 } : Room) (va_Pc [.ref (ad 0 0), va_rf (kh_rc ad 6 x1), .int x2] (kh_I D ca A ad ρ)) (kh_Qi D ca A ad (kh_pu (f_X4_firstFree ρ x1 x2) ρ)) 0 0 A := by
  refine Met.ofW (cc := cX4_firstFree) (maxL := 6) (ret := (some .int)) (by decide) rfl ?_
  intro p e s m args below meth c s₁ B hml hv
  obtain ⟨rfl, hK, hw, hA⟩ := hv
  have C : kh_C p s m ([.ref (ad 0 0), va_rf (kh_rc ad 6 x1), .int x2]).toArray c cX4_firstFree 6 RX4 wsX4_firstFree D ca A := ⟨B.exec, B.bytes, hml, findClass_of_methodNamed B.named, atoms_spec (ws := wsX4_firstFree) B.pre, hK, hA⟩
  have hr := B.returns
  have hlocks := B.notSynchronized
  have hS : va_S A s.heap s.heap [] := va_S.rf
  have hl := kh_entry ([.ref (ad 0 0), va_rf (kh_rc ad 6 x1), .int x2]) (n := 6) (kh_ac rfl (kh_ac (kh_c1 _) (kh_ac rfl kh_an))) (Nat.le_of_ble_eq_true rfl)
  rw [lg_entry_eq]
  generalize (lg_sl ([.ref (ad 0 0), va_rf (kh_rc ad 6 x1), .int x2]) ++ List.replicate (6 - (lg_sl ([.ref (ad 0 0), va_rf (kh_rc ad 6 x1), .int x2])).length) Slot.unset).toArray = ls at hl ⊢
  have hl : kh_lv ls 6 [(0, .ref (ad 0 0)), (1, va_rf (kh_rc ad 6 x1)), (2, .int x2)] := hl
  have k_240 := C.2.2.2.2.1 (.fieldLink RX4 240 "KeylessHall" "bookingCount" "I") (by decide +kernel)
  have k_299 := C.2.2.2.2.1 (.fieldLink RX4 299 "KeylessHall$Booking" "begin" "I") (by decide +kernel)
  have hF := hF0
  unfold f_X4_firstFree at hF
  have wL46 : ∀ (x3_46 : Int32) (H : Heap) (locs : List Loc) (ls : Array Slot), f_X4_firstFree_L46 ρ x3_46 = some q0 → kh_w D ca A ad ρ H → va_S A s.heap H locs → kh_lv ls 6 [(3, .int x3_46)] → W p l e (headSpec wsX4_firstFree ({ frames := 2, cells := 0, slots := 0, locals := 44 } : Room)).room s m ([.ref (ad 0 0), va_rf (kh_rc ad 6 x1), .int x2]).toArray below meth c H locs 0 0 (MQ below (kh_Qi D ca A ad (kh_pu (f_X4_firstFree ρ x1 x2) ρ)) ([.ref (ad 0 0), va_rf (kh_rc ad 6 x1), .int x2]).toArray s 0 0 A) (F0 m 46 ls []) := by
    intro x3_46 H locs ls hF hw hS hl
    unfold f_X4_firstFree_L46 at hF
    refine lv_iload_n C.1 C.2.1 dX4_firstFree_46 rfl (kh_at hl 0 rfl) ?_
    exact W.iret (v := x3_46) C.1 C.2.1 hr (fun t ht hW => ⟨⟨x3_46, ρ, rfl, kh_mp (hF0.trans hF.symm), kh_bk ht hw⟩, hS.F ht⟩) hS.2.2 dX4_firstFree_47
  have wL27 : ∀ (x3_27 : Int32) (H : Heap) (locs : List Loc) (ls : Array Slot), f_X4_firstFree_L27 ρ x3_27 = some q0 → kh_w D ca A ad ρ H → va_S A s.heap H locs → kh_lv ls 6 [(3, .int x3_27)] → W p l e (headSpec wsX4_firstFree ({ frames := 2, cells := 0, slots := 0, locals := 44 } : Room)).room s m ([.ref (ad 0 0), va_rf (kh_rc ad 6 x1), .int x2]).toArray below meth c H locs 0 0 (MQ below (kh_Qi D ca A ad (kh_pu (f_X4_firstFree ρ x1 x2) ρ)) ([.ref (ad 0 0), va_rf (kh_rc ad 6 x1), .int x2]).toArray s 0 0 A) (F0 m 27 ls []) := by
    intro x3_27 H locs ls hF hw hS hl
    unfold f_X4_firstFree_L27 at hF
    refine lv_iload_n C.1 C.2.1 dX4_firstFree_27 rfl (kh_at hl 0 rfl) ?_
    exact W.iret (v := x3_27) C.1 C.2.1 hr (fun t ht hW => ⟨⟨x3_27, ρ, rfl, kh_mp (hF0.trans hF.symm), kh_bk ht hw⟩, hS.F ht⟩) hS.2.2 dX4_firstFree_28
  have wB5 : ∀ (x1_c5 : Int32) (b : (Int32) ⊕ (Int32)), f_X4_firstFree_A5 ρ x1_c5 b = some q0 → ∀ (n : Nat) (y3_5 : Int32) (y4_5 : Int32) (H : Heap) (locs : List Loc) (ls : Array Slot), kh_lp (fun a : Int32 × Int32 => f_X4_firstFree_B5 ρ x1_c5 a.1 a.2) n (y3_5, y4_5) = some b → kh_w D ca A ad ρ H → va_S A s.heap H locs → kh_lv ls 6 [(0, .ref (ad 0 0)), (1, va_rf (kh_rc ad 6 x1_c5)), (3, .int y3_5), (4, .int y4_5)] → W p l e (headSpec wsX4_firstFree ({ frames := 2, cells := 0, slots := 0, locals := 44 } : Room)).room s m ([.ref (ad 0 0), va_rf (kh_rc ad 6 x1), .int x2]).toArray below meth c H locs 0 0 (MQ below (kh_Qi D ca A ad (kh_pu (f_X4_firstFree ρ x1 x2) ρ)) ([.ref (ad 0 0), va_rf (kh_rc ad 6 x1), .int x2]).toArray s 0 0 A) (F0 m 5 ls []) := by
    intro x1_c5 b hA_5 n
    induction n with
    | zero => intro y3_5 y4_5 H locs ls h9; exact absurd h9 (fun z => nomatch z)
    | succ n ih_5 =>
      intro y3_5 y4_5 H locs ls hb_5 hw hS hl
      obtain ⟨q_5, hF, hb_5⟩ := kh_lp_ok hb_5
      have hF : f_X4_firstFree_B5 ρ x1_c5 y3_5 y4_5 = some q_5 := hF
      unfold f_X4_firstFree_B5 at hF
      refine lv_iload C.1 C.2.1 dX4_firstFree_5 (kh_at hl 3 rfl) ?_
      refine lv_aload_n C.1 C.2.1 dX4_firstFree_7 rfl (kh_at hl 0 rfl) ?_
      refine kh_get C hw 0 5 rfl (kh_z0 ρ) kh_kd0 (Cn := RX4) (T := TX4) (N := 10) rfl (Nat.le_of_ble_eq_true rfl) k_240 (kf_0_5 ad ρ 0) dX4_firstFree_8 ?_
      refine lv_icmp_ge (tgt := 46) C.1 C.2.1 dX4_firstFree_11 (by decide) (fun c_1 => ?_) (fun c_1 => ?_)
      · have hF := kh_ift hF c_1
        have e9 := Option.some.inj hF
        rcases hb_5 with ⟨a9, h8, h9⟩ | h8
        · exact absurd (e9.trans h8) (fun z => nomatch z)
        have h7 := Sum.inr.inj (e9.trans h8)
        have hF := (congrArg (f_X4_firstFree_A5 ρ x1_c5) h7).trans hA_5
        exact wL46 y3_5 _ _ _ hF hw hS (kh_sub hl [2] rfl)
      · have hF := kh_iff hF c_1
        refine lv_aload_n C.1 C.2.1 dX4_firstFree_14 rfl (kh_at hl 0 rfl) ?_
        refine kh_aload_n C.1 C.2.1 dX4_firstFree_15 rfl (kh_at hl 1 rfl) ?_
        refine lv_iload_n C.1 C.2.1 dX4_firstFree_16 rfl (kh_at hl 2 rfl) ?_
        obtain ⟨r_2, h_2, hF⟩ := kh_bd_ok hF
        refine kh_callq (va_runV (As := [va_rf (kh_rc ad 6 x1_c5), .int y3_5]) (rest := []) ⟨C.1, C.2.1, C.2.2.1, C.2.2.2.1, C.2.2.2.2.1⟩ (c_X4_bookingTooNear l D ca A ad ρ x1_c5 y3_5 h_2) (cwV 2 C.2.2.2.2.1 gX4_firstFree_X4_bookingTooNear rfl rfl rfl (by decide +kernel) ⟨Nat.le_of_ble_eq_true rfl, Nat.le_of_ble_eq_true rfl⟩) (kh_preV C hw hS 0 (kh_z0 ρ) kh_kd0 rfl) rfl rfl hl.1.1 rfl (lv_room (kh_sum kh_an (Nat.le_of_ble_eq_true rfl))) dX4_firstFree_17 ⟨Nat.le_of_ble_eq_true rfl, Nat.le_of_ble_eq_true rfl⟩) hS (kh_mp h_2) (fun H locs hw hS => ?_)
        refine kh_astore (lv' := [(5, va_rf (kh_rc ad 14 r_2)), (0, .ref (ad 0 0)), (1, va_rf (kh_rc ad 6 x1_c5)), (3, .int y3_5), (4, .int y4_5)]) C.1 C.2.1 dX4_firstFree_20 hl (by decide) rfl (fun ls hl => ?_)
        refine kh_aload C.1 C.2.1 dX4_firstFree_22 (kh_at hl 0 rfl) ?_
        refine kh_ifnonnull (tgt := 29) C.1 C.2.1 dX4_firstFree_24 (by decide) (fun c_3 => ?_) (fun c_3 => ?_)
        · have hF := kh_iff hF c_3
          refine kh_aload C.1 C.2.1 dX4_firstFree_29 (kh_at hl 0 rfl) ?_
          obtain ⟨g_4, hF⟩ := kh_gd_ok hF
          have v_5 := kh_in_lt g_4
          have r_6 := kh_rf (ad := ad) (k := 14) g_4
          refine kh_get C hw 14 1 r_6 v_5 kh_kd14 (Cn := RX0) (T := TX0) (N := 4) rfl (Nat.le_of_ble_eq_true rfl) k_299 (kf_14_1 ad ρ r_2.toNatClampNeg) dX4_firstFree_31 ?_
          refine kh_aload_n C.1 C.2.1 dX4_firstFree_34 rfl (kh_at hl 2 rfl) ?_
          obtain ⟨r_7, h_7, hF⟩ := kh_bd_ok hF
          refine kh_calli (va_runS (As := [va_rf (kh_rc ad 6 x1_c5)]) (rest := [.int (ρ 14 1 r_2.toNatClampNeg 0)]) ⟨C.1, C.2.1, C.2.2.1, C.2.2.2.1, C.2.2.2.2.1⟩ (c_X4_bookingDistance l D ca A ad ρ x1_c5 h_7) (va_cwS 1 C.2.2.2.2.1 gX4_firstFree_X4_bookingDistance rfl rfl rfl (by decide +kernel) ⟨Nat.le_of_ble_eq_true rfl, Nat.le_of_ble_eq_true rfl⟩) (kh_preS C hw hS) rfl rfl hl.1.1 rfl (lv_room (kh_sum (kh_ac rfl kh_an) (Nat.le_of_ble_eq_true rfl))) dX4_firstFree_35 ⟨Nat.le_of_ble_eq_true rfl, Nat.le_of_ble_eq_true rfl⟩) hS (kh_mp h_7) (fun H locs hw hS => ?_)
          refine lv_iadd C.1 C.2.1 dX4_firstFree_38 ?_
          refine kh_istore_n (lv' := [(3, .int ((ρ 14 1 r_2.toNatClampNeg 0) + r_7)), (5, va_rf (kh_rc ad 14 r_2)), (0, .ref (ad 0 0)), (1, va_rf (kh_rc ad 6 x1_c5)), (4, .int y4_5)]) C.1 C.2.1 dX4_firstFree_39 rfl hl (by decide) rfl (fun ls hl => ?_)
          refine kh_iinc (v := y4_5 + (1 : Int32)) (lv' := [(4, .int (y4_5 + (1 : Int32))), (3, .int ((ρ 14 1 r_2.toNatClampNeg 0) + r_7)), (5, va_rf (kh_rc ad 14 r_2)), (0, .ref (ad 0 0)), (1, va_rf (kh_rc ad 6 x1_c5))]) C.1 C.2.1 dX4_firstFree_40 hl (k := 4) rfl (by rfl) (by decide) rfl (fun ls hl => ?_)
          refine lv_goto (tgt := 5) C.1 C.2.1 dX4_firstFree_43 (by decide) ?_
          have e9 := Option.some.inj hF
          rcases hb_5 with ⟨a9, h8, h9⟩ | h8
          · have h7 := Sum.inl.inj (e9.trans h8)
            subst h7
            exact ih_5 _ _ _ _ _ h9 hw hS (kh_sub hl [3, 4, 1, 0] rfl)
          · exact absurd (e9.trans h8) (fun z => nomatch z)
        · have hF := kh_ift hF c_3
          have e9 := Option.some.inj hF
          rcases hb_5 with ⟨a9, h8, h9⟩ | h8
          · exact absurd (e9.trans h8) (fun z => nomatch z)
          have h7 := Sum.inr.inj (e9.trans h8)
          have hF := (congrArg (f_X4_firstFree_A5 ρ x1_c5) h7).trans hA_5
          exact wL27 y3_5 _ _ _ hF hw hS (kh_sub hl [3] rfl)
  refine lv_iload_n C.1 C.2.1 dX4_firstFree_0 rfl (kh_at hl 2 rfl) ?_
  refine kh_istore_n (lv' := [(3, .int x2), (0, .ref (ad 0 0)), (1, va_rf (kh_rc ad 6 x1)), (2, .int x2)]) C.1 C.2.1 dX4_firstFree_1 rfl hl (by decide) rfl (fun ls hl => ?_)
  refine lv_iconst (v := (0 : Int32)) C.1 C.2.1 dX4_firstFree_2 (by decide) ?_
  refine kh_istore (lv' := [(4, .int (0 : Int32)), (3, .int x2), (0, .ref (ad 0 0)), (1, va_rf (kh_rc ad 6 x1)), (2, .int x2)]) C.1 C.2.1 dX4_firstFree_3 hl (by decide) rfl (fun ls hl => ?_)
  obtain ⟨b_5, hb_5, hF⟩ := kh_bd_ok hF
  exact wB5 x1 b_5 hF _ x2 (0 : Int32) _ _ _ hb_5 hw hS (kh_sub hl [2, 3, 1, 0] rfl)

def f_X4_dropUnusedBookings_L49 (ρ_49 : kh_S) : Option (kh_S) := some ρ_49
def f_X4_dropUnusedBookings_L43 (ρ_43 : kh_S) (x1_43 : Int32) : Option ((kh_S × Int32) ⊕ (kh_S)) := some (.inl (ρ_43, x1_43 + (1 : Int32)))
def f_X4_dropUnusedBookings_B2  (σ_2 : kh_S) (y1_2 : Int32) : Option ((kh_S × Int32) ⊕ (kh_S)) := if (σ_2 0 5 0 0) ≤ y1_2 then some (.inr σ_2) else kh_gd (kh_in y1_2 30) (kh_gd (kh_in (σ_2 3 0 0 y1_2.toNatClampNeg) (kh_n σ_2 14)) (if (σ_2 14 2 ((σ_2 3 0 0 y1_2.toNatClampNeg).toNatClampNeg) 0) = 0 then if (σ_2 0 8 0 0) < ((σ_2 14 1 ((σ_2 3 0 0 y1_2.toNatClampNeg).toNatClampNeg) 0) + (15 : Int32)) then f_X4_dropUnusedBookings_L43 σ_2 y1_2 else f_X4_dropUnusedBookings_L43 (kh_up σ_2 14 2 ((σ_2 3 0 0 y1_2.toNatClampNeg).toNatClampNeg) 0 (2 : Int32)) y1_2 else f_X4_dropUnusedBookings_L43 σ_2 y1_2))
def f_X4_dropUnusedBookings_A2  : (kh_S) → Option (kh_S) := (fun u : kh_S => f_X4_dropUnusedBookings_L49 u)
def f_X4_dropUnusedBookings (ρ : kh_S)  : Option (kh_S) := kh_bd (kh_lp (fun a : kh_S × Int32 => f_X4_dropUnusedBookings_B2 a.1 a.2) 9999 (ρ, (0 : Int32))) (f_X4_dropUnusedBookings_A2)
set_option maxHeartbeats 4000000 in
set_option maxRecDepth 100000 in
theorem c_X4_dropUnusedBookings (l : Launch) (D : va_G) (ca : Nat → ClassId) (A : Nat → Prop) (ad : Nat → Nat → Nat) (ρ : kh_S)  {q0 : kh_S} (hF0 : f_X4_dropUnusedBookings ρ = some q0) : Met l yX4_dropUnusedBookings wsX4_dropUnusedBookings ({ frames := 0, cells := 0, slots := 0, locals := 0 } : Room) (va_Pc [.ref (ad 0 0)] (kh_I D ca A ad ρ)) (kh_Qv D ca A ad (f_X4_dropUnusedBookings ρ)) 0 0 A := by
  refine Met.ofW (cc := cX4_dropUnusedBookings) (maxL := 3) (ret := none) (by decide) rfl ?_
  intro p e s m args below meth c s₁ B hml hv
  obtain ⟨rfl, hK, hw, hA⟩ := hv
  have C : kh_C p s m ([.ref (ad 0 0)]).toArray c cX4_dropUnusedBookings 3 RX4 wsX4_dropUnusedBookings D ca A := ⟨B.exec, B.bytes, hml, findClass_of_methodNamed B.named, atoms_spec (ws := wsX4_dropUnusedBookings) B.pre, hK, hA⟩
  have hr := B.returns
  have hlocks := B.notSynchronized
  have hS : va_S A s.heap s.heap [] := va_S.rf
  have hl := kh_entry ([.ref (ad 0 0)]) (n := 3) (kh_ac rfl kh_an) (Nat.le_of_ble_eq_true rfl)
  rw [lg_entry_eq]
  generalize (lg_sl ([.ref (ad 0 0)]) ++ List.replicate (3 - (lg_sl ([.ref (ad 0 0)])).length) Slot.unset).toArray = ls at hl ⊢
  have hl : kh_lv ls 3 [(0, .ref (ad 0 0))] := hl
  have k_240 := C.2.2.2.2.1 (.fieldLink RX4 240 "KeylessHall" "bookingCount" "I") (by decide +kernel)
  have k_23 := C.2.2.2.2.1 (.fieldLink RX4 23 "KeylessHall" "bookings" "[LKeylessHall$Booking;") (by decide +kernel)
  have k_252 := C.2.2.2.2.1 (.fieldLink RX4 252 "KeylessHall$Booking" "how" "I") (by decide +kernel)
  have k_299 := C.2.2.2.2.1 (.fieldLink RX4 299 "KeylessHall$Booking" "begin" "I") (by decide +kernel)
  have k_231 := C.2.2.2.2.1 (.fieldLink RX4 231 "KeylessHall" "now" "I") (by decide +kernel)
  have hF := hF0
  unfold f_X4_dropUnusedBookings at hF
  have wL49 : ∀ (ρ_49 : kh_S) (H : Heap) (locs : List Loc) (ls : Array Slot), f_X4_dropUnusedBookings_L49 ρ_49 = some q0 → kh_w D ca A ad ρ_49 H → va_S A s.heap H locs → kh_lv ls 3 [] → W p l e (headSpec wsX4_dropUnusedBookings ({ frames := 0, cells := 0, slots := 0, locals := 0 } : Room)).room s m ([.ref (ad 0 0)]).toArray below meth c H locs 0 0 (MQ below (kh_Qv D ca A ad (f_X4_dropUnusedBookings ρ)) ([.ref (ad 0 0)]).toArray s 0 0 A) (F0 m 49 ls []) := by
    intro ρ_49 H locs ls hF hw hS hl
    unfold f_X4_dropUnusedBookings_L49 at hF
    exact W.vret C.1 C.2.1 hr (fun t ht hW => ⟨⟨ρ_49, rfl, hF0.trans hF.symm, kh_bk ht hw⟩, hS.F ht⟩) hS.2.2 dX4_dropUnusedBookings_49
  have wB2 : ∀  (b : kh_S), f_X4_dropUnusedBookings_A2 b = some q0 → ∀ (n : Nat) (σ_2 : kh_S) (y1_2 : Int32) (H : Heap) (locs : List Loc) (ls : Array Slot), kh_lp (fun a : kh_S × Int32 => f_X4_dropUnusedBookings_B2 a.1 a.2) n (σ_2, y1_2) = some b → kh_w D ca A ad σ_2 H → va_S A s.heap H locs → kh_lv ls 3 [(0, .ref (ad 0 0)), (1, .int y1_2)] → W p l e (headSpec wsX4_dropUnusedBookings ({ frames := 0, cells := 0, slots := 0, locals := 0 } : Room)).room s m ([.ref (ad 0 0)]).toArray below meth c H locs 0 0 (MQ below (kh_Qv D ca A ad (f_X4_dropUnusedBookings ρ)) ([.ref (ad 0 0)]).toArray s 0 0 A) (F0 m 2 ls []) := by
    intro  b hA_2 n
    induction n with
    | zero => intro σ_2 y1_2 H locs ls h9; exact absurd h9 (fun z => nomatch z)
    | succ n ih_2 =>
      intro σ_2 y1_2 H locs ls hb_2 hw hS hl
      obtain ⟨q_2, hF, hb_2⟩ := kh_lp_ok hb_2
      have hF : f_X4_dropUnusedBookings_B2 σ_2 y1_2 = some q_2 := hF
      have wL43 : ∀ (ρ_43 : kh_S) (x1_43 : Int32) (H : Heap) (locs : List Loc) (ls : Array Slot), f_X4_dropUnusedBookings_L43 ρ_43 x1_43 = some q_2 → kh_w D ca A ad ρ_43 H → va_S A s.heap H locs → kh_lv ls 3 [(0, .ref (ad 0 0)), (1, .int x1_43)] → W p l e (headSpec wsX4_dropUnusedBookings ({ frames := 0, cells := 0, slots := 0, locals := 0 } : Room)).room s m ([.ref (ad 0 0)]).toArray below meth c H locs 0 0 (MQ below (kh_Qv D ca A ad (f_X4_dropUnusedBookings ρ)) ([.ref (ad 0 0)]).toArray s 0 0 A) (F0 m 43 ls []) := by
        intro ρ_43 x1_43 H locs ls hF hw hS hl
        unfold f_X4_dropUnusedBookings_L43 at hF
        refine kh_iinc (v := x1_43 + (1 : Int32)) (lv' := [(1, .int (x1_43 + (1 : Int32))), (0, .ref (ad 0 0))]) C.1 C.2.1 dX4_dropUnusedBookings_43 hl (k := 1) rfl (by rfl) (by decide) rfl (fun ls hl => ?_)
        refine lv_goto (tgt := 2) C.1 C.2.1 dX4_dropUnusedBookings_46 (by decide) ?_
        have e9 := Option.some.inj hF
        rcases hb_2 with ⟨a9, h8, h9⟩ | h8
        · have h7 := Sum.inl.inj (e9.trans h8)
          subst h7
          exact ih_2 _ _ _ _ _ h9 hw hS (kh_sub hl [1, 0] rfl)
        · exact absurd (e9.trans h8) (fun z => nomatch z)
      unfold f_X4_dropUnusedBookings_B2 at hF
      refine lv_iload_n C.1 C.2.1 dX4_dropUnusedBookings_2 rfl (kh_at hl 1 rfl) ?_
      refine lv_aload_n C.1 C.2.1 dX4_dropUnusedBookings_3 rfl (kh_at hl 0 rfl) ?_
      refine kh_get C hw 0 5 rfl (kh_z0 σ_2) kh_kd0 (Cn := RX4) (T := TX4) (N := 10) rfl (Nat.le_of_ble_eq_true rfl) k_240 (kf_0_5 ad σ_2 0) dX4_dropUnusedBookings_4 ?_
      refine lv_icmp_ge (tgt := 49) C.1 C.2.1 dX4_dropUnusedBookings_7 (by decide) (fun c_1 => ?_) (fun c_1 => ?_)
      · have hF := kh_ift hF c_1
        have e9 := Option.some.inj hF
        rcases hb_2 with ⟨a9, h8, h9⟩ | h8
        · exact absurd (e9.trans h8) (fun z => nomatch z)
        have h7 := Sum.inr.inj (e9.trans h8)
        have hF := (congrArg (f_X4_dropUnusedBookings_A2) h7).trans hA_2
        exact wL49 σ_2 _ _ _ hF hw hS (kh_sub hl [] rfl)
      · have hF := kh_iff hF c_1
        refine lv_aload_n C.1 C.2.1 dX4_dropUnusedBookings_10 rfl (kh_at hl 0 rfl) ?_
        refine kh_get C hw 0 4 rfl (kh_z0 σ_2) kh_kd0 (Cn := RX4) (T := TX4) (N := 10) rfl (Nat.le_of_ble_eq_true rfl) k_23 (kf_0_4 ad σ_2 0) dX4_dropUnusedBookings_11 ?_
        refine lv_iload_n C.1 C.2.1 dX4_dropUnusedBookings_14 rfl (kh_at hl 1 rfl) ?_
        obtain ⟨g_2, hF⟩ := kh_gd_ok hF
        refine kh_aald C hw 3 rfl (kh_z3 σ_2) kh_kd3 kh_ty3 g_2 dX4_dropUnusedBookings_15 ?_
        refine kh_astore_n (lv' := [(2, va_rf (kh_rc ad 14 (σ_2 3 0 0 y1_2.toNatClampNeg))), (0, .ref (ad 0 0)), (1, .int y1_2)]) C.1 C.2.1 dX4_dropUnusedBookings_16 rfl hl (by decide) rfl (fun ls hl => ?_)
        refine kh_aload_n C.1 C.2.1 dX4_dropUnusedBookings_17 rfl (kh_at hl 0 rfl) ?_
        obtain ⟨g_3, hF⟩ := kh_gd_ok hF
        have v_4 := kh_in_lt g_3
        have r_5 := kh_rf (ad := ad) (k := 14) g_3
        refine kh_get C hw 14 2 r_5 v_4 kh_kd14 (Cn := RX0) (T := TX0) (N := 4) rfl (Nat.le_of_ble_eq_true rfl) k_252 (kf_14_2 ad σ_2 ((σ_2 3 0 0 y1_2.toNatClampNeg).toNatClampNeg)) dX4_dropUnusedBookings_18 ?_
        refine lv_if_ne (tgt := 43) C.1 C.2.1 dX4_dropUnusedBookings_21 (by decide) (fun c_6 => ?_) (fun c_6 => ?_)
        · have hF := kh_iff hF c_6
          exact wL43 σ_2 y1_2 _ _ _ hF hw hS (kh_sub hl [1, 2] rfl)
        · have hF := kh_ift hF c_6
          refine kh_aload_n C.1 C.2.1 dX4_dropUnusedBookings_24 rfl (kh_at hl 0 rfl) ?_
          refine kh_get C hw 14 1 r_5 v_4 kh_kd14 (Cn := RX0) (T := TX0) (N := 4) rfl (Nat.le_of_ble_eq_true rfl) k_299 (kf_14_1 ad σ_2 ((σ_2 3 0 0 y1_2.toNatClampNeg).toNatClampNeg)) dX4_dropUnusedBookings_25 ?_
          refine lv_bipush (v := (15 : Int32)) C.1 C.2.1 dX4_dropUnusedBookings_28 (by decide) ?_
          refine lv_iadd C.1 C.2.1 dX4_dropUnusedBookings_30 ?_
          refine lv_aload_n C.1 C.2.1 dX4_dropUnusedBookings_31 rfl (kh_at hl 1 rfl) ?_
          refine kh_get C hw 0 8 rfl (kh_z0 σ_2) kh_kd0 (Cn := RX4) (T := TX4) (N := 10) rfl (Nat.le_of_ble_eq_true rfl) k_231 (kf_0_8 ad σ_2 0) dX4_dropUnusedBookings_32 ?_
          refine lv_icmp_gt (tgt := 43) C.1 C.2.1 dX4_dropUnusedBookings_35 (by decide) (fun c_7 => ?_) (fun c_7 => ?_)
          · have hF := kh_ift hF c_7
            exact wL43 σ_2 y1_2 _ _ _ hF hw hS (kh_sub hl [1, 2] rfl)
          · have hF := kh_iff hF c_7
            refine kh_aload_n C.1 C.2.1 dX4_dropUnusedBookings_38 rfl (kh_at hl 0 rfl) ?_
            refine lv_iconst (v := (2 : Int32)) C.1 C.2.1 dX4_dropUnusedBookings_39 (by decide) ?_
            refine kh_putI C hw hS 14 2 r_5 v_4 kh_kd14 (by decide) (Cn := RX0) (T := TX0) (N := 4) rfl (Nat.le_of_ble_eq_true rfl) (kq_14_2) k_252 rfl (by decide +kernel) dX4_dropUnusedBookings_40 (fun H locs hw hS => ?_)
            exact wL43 (kh_up σ_2 14 2 ((σ_2 3 0 0 y1_2.toNatClampNeg).toNatClampNeg) 0 (2 : Int32)) y1_2 _ _ _ hF hw hS (kh_sub hl [1, 2] rfl)
  refine lv_iconst (v := (0 : Int32)) C.1 C.2.1 dX4_dropUnusedBookings_0 (by decide) ?_
  refine kh_istore_n (lv' := [(1, .int (0 : Int32)), (0, .ref (ad 0 0))]) C.1 C.2.1 dX4_dropUnusedBookings_1 rfl hl (by decide) rfl (fun ls hl => ?_)
  obtain ⟨b_2, hb_2, hF⟩ := kh_bd_ok hF
  exact wB2  b_2 hF _ ρ (0 : Int32) _ _ _ hb_2 hw hS (kh_sub hl [1, 0] rfl)

def f_X4_passOne_L67 (ρ_67 : kh_S) : Option (kh_S) := kh_bd (f_X4_dropUnusedBookings ρ_67) (fun ρ_1 => some ρ_1)
def f_X4_passOne_B47  (σ_47 : kh_S) (y1_47 : Int32) : Option ((kh_S × Int32) ⊕ (kh_S)) := if (3 : Int32) ≤ y1_47 then some (.inr σ_47) else kh_gd (kh_in y1_47 3) (kh_bd (f_X4_workOneMinute σ_47 (σ_47 4 0 0 y1_47.toNatClampNeg)) (fun ρ_4 => some (.inl (ρ_4, y1_47 + (1 : Int32)))))
def f_X4_passOne_A47  : (kh_S) → Option (kh_S) := (fun u : kh_S => f_X4_passOne_L67 u)
def f_X4_passOne_L45 (ρ_45 : kh_S) : Option (kh_S) := kh_bd (kh_lp (fun a : kh_S × Int32 => f_X4_passOne_B47 a.1 a.2) 9999 (ρ_45, (0 : Int32))) (f_X4_passOne_A47)
def f_X4_passOne_L39 (ρ_39 : kh_S) (x1_39 : Int32) : Option ((kh_S × Int32) ⊕ (kh_S)) := some (.inl (ρ_39, x1_39 + (1 : Int32)))
def f_X4_passOne_B12  (σ_12 : kh_S) (y1_12 : Int32) : Option ((kh_S × Int32) ⊕ (kh_S)) := if (σ_12 0 1 0 0) ≤ y1_12 then some (.inr σ_12) else kh_gd (kh_in y1_12 4) (kh_gd (kh_in (σ_12 1 0 0 y1_12.toNatClampNeg) (kh_n σ_12 6)) (if (σ_12 6 12 ((σ_12 1 0 0 y1_12.toNatClampNeg).toNatClampNeg) 0) < 0 then f_X4_passOne_L39 σ_12 y1_12 else kh_bd (f_X4_leaveIfLate σ_12 (σ_12 6 12 ((σ_12 1 0 0 y1_12.toNatClampNeg).toNatClampNeg) 0)) (fun ρ_11 => f_X4_passOne_L39 ρ_11 y1_12)))
def f_X4_passOne_A12  : (kh_S) → Option (kh_S) := (fun u : kh_S => f_X4_passOne_L45 u)
def f_X4_passOne (ρ : kh_S)  : Option (kh_S) := kh_bd (kh_lp (fun a : kh_S × Int32 => f_X4_passOne_B12 a.1 a.2) 9999 (kh_up ρ 0 8 0 0 ((ρ 0 8 0 0) + (1 : Int32)), (0 : Int32))) (f_X4_passOne_A12)
set_option maxHeartbeats 4000000 in
set_option maxRecDepth 100000 in
theorem c_X4_passOne (l : Launch) (D : va_G) (ca : Nat → ClassId) (A : Nat → Prop) (ad : Nat → Nat → Nat) (ρ : kh_S)  {q0 : kh_S} (hF0 : f_X4_passOne ρ = some q0) : Met l yX4_passOne wsX4_passOne ({ frames := 5, cells := 0, slots := 0, locals := 110 } : Room) (va_Pc [.ref (ad 0 0)] (kh_I D ca A ad ρ)) (kh_Qv D ca A ad (f_X4_passOne ρ)) 0 0 A := by
  refine Met.ofW (cc := cX4_passOne) (maxL := 3) (ret := none) (by decide) rfl ?_
  intro p e s m args below meth c s₁ B hml hv
  obtain ⟨rfl, hK, hw, hA⟩ := hv
  have C : kh_C p s m ([.ref (ad 0 0)]).toArray c cX4_passOne 3 RX4 wsX4_passOne D ca A := ⟨B.exec, B.bytes, hml, findClass_of_methodNamed B.named, atoms_spec (ws := wsX4_passOne) B.pre, hK, hA⟩
  have hr := B.returns
  have hlocks := B.notSynchronized
  have hS : va_S A s.heap s.heap [] := va_S.rf
  have hl := kh_entry ([.ref (ad 0 0)]) (n := 3) (kh_ac rfl kh_an) (Nat.le_of_ble_eq_true rfl)
  rw [lg_entry_eq]
  generalize (lg_sl ([.ref (ad 0 0)]) ++ List.replicate (3 - (lg_sl ([.ref (ad 0 0)])).length) Slot.unset).toArray = ls at hl ⊢
  have hl : kh_lv ls 3 [(0, .ref (ad 0 0))] := hl
  have k_29 := C.2.2.2.2.1 (.fieldLink RX4 29 "KeylessHall" "workers" "[LKeylessHall$Worker;") (by decide +kernel)
  have k_49 := C.2.2.2.2.1 (.fieldLink RX4 49 "KeylessHall" "roomCount" "I") (by decide +kernel)
  have k_11 := C.2.2.2.2.1 (.fieldLink RX4 11 "KeylessHall" "rooms" "[LKeylessHall$Room;") (by decide +kernel)
  have k_273 := C.2.2.2.2.1 (.fieldLink RX4 273 "KeylessHall$Room" "players" "LKeylessHall$Group;") (by decide +kernel)
  have k_231 := C.2.2.2.2.1 (.fieldLink RX4 231 "KeylessHall" "now" "I") (by decide +kernel)
  have hF := hF0
  unfold f_X4_passOne at hF
  have wL67 : ∀ (ρ_67 : kh_S) (H : Heap) (locs : List Loc) (ls : Array Slot), f_X4_passOne_L67 ρ_67 = some q0 → kh_w D ca A ad ρ_67 H → va_S A s.heap H locs → kh_lv ls 3 [(0, .ref (ad 0 0))] → W p l e (headSpec wsX4_passOne ({ frames := 5, cells := 0, slots := 0, locals := 110 } : Room)).room s m ([.ref (ad 0 0)]).toArray below meth c H locs 0 0 (MQ below (kh_Qv D ca A ad (f_X4_passOne ρ)) ([.ref (ad 0 0)]).toArray s 0 0 A) (F0 m 67 ls []) := by
    intro ρ_67 H locs ls hF hw hS hl
    unfold f_X4_passOne_L67 at hF
    refine lv_aload_n C.1 C.2.1 dX4_passOne_67 rfl (kh_at hl 0 rfl) ?_
    obtain ⟨ρ_1, h_1, hF⟩ := kh_bd_ok hF
    refine kh_callv (va_runV (As := []) (rest := []) ⟨C.1, C.2.1, C.2.2.1, C.2.2.2.1, C.2.2.2.2.1⟩ (c_X4_dropUnusedBookings l D ca A ad ρ_67 h_1) (cwV 0 C.2.2.2.2.1 gX4_passOne_X4_dropUnusedBookings rfl rfl rfl (by decide +kernel) ⟨Nat.le_of_ble_eq_true rfl, Nat.le_of_ble_eq_true rfl⟩) (kh_preV C hw hS 0 (kh_z0 ρ_67) kh_kd0 rfl) rfl rfl hl.1.1 rfl (lv_room (kh_sum kh_an (Nat.le_of_ble_eq_true rfl))) dX4_passOne_68 ⟨Nat.le_of_ble_eq_true rfl, Nat.le_of_ble_eq_true rfl⟩) hS h_1 (fun H locs hw hS => ?_)
    exact W.vret C.1 C.2.1 hr (fun t ht hW => ⟨⟨ρ_1, rfl, hF0.trans hF.symm, kh_bk ht hw⟩, hS.F ht⟩) hS.2.2 dX4_passOne_71
  have wB47 : ∀  (b : kh_S), f_X4_passOne_A47 b = some q0 → ∀ (n : Nat) (σ_47 : kh_S) (y1_47 : Int32) (H : Heap) (locs : List Loc) (ls : Array Slot), kh_lp (fun a : kh_S × Int32 => f_X4_passOne_B47 a.1 a.2) n (σ_47, y1_47) = some b → kh_w D ca A ad σ_47 H → va_S A s.heap H locs → kh_lv ls 3 [(0, .ref (ad 0 0)), (1, .int y1_47)] → W p l e (headSpec wsX4_passOne ({ frames := 5, cells := 0, slots := 0, locals := 110 } : Room)).room s m ([.ref (ad 0 0)]).toArray below meth c H locs 0 0 (MQ below (kh_Qv D ca A ad (f_X4_passOne ρ)) ([.ref (ad 0 0)]).toArray s 0 0 A) (F0 m 47 ls []) := by
    intro  b hA_47 n
    induction n with
    | zero => intro σ_47 y1_47 H locs ls h9; exact absurd h9 (fun z => nomatch z)
    | succ n ih_47 =>
      intro σ_47 y1_47 H locs ls hb_47 hw hS hl
      obtain ⟨q_47, hF, hb_47⟩ := kh_lp_ok hb_47
      have hF : f_X4_passOne_B47 σ_47 y1_47 = some q_47 := hF
      unfold f_X4_passOne_B47 at hF
      refine lv_iload_n C.1 C.2.1 dX4_passOne_47 rfl (kh_at hl 1 rfl) ?_
      refine lv_iconst (v := (3 : Int32)) C.1 C.2.1 dX4_passOne_48 (by decide) ?_
      refine lv_icmp_ge (tgt := 67) C.1 C.2.1 dX4_passOne_49 (by decide) (fun c_2 => ?_) (fun c_2 => ?_)
      · have hF := kh_ift hF c_2
        have e9 := Option.some.inj hF
        rcases hb_47 with ⟨a9, h8, h9⟩ | h8
        · exact absurd (e9.trans h8) (fun z => nomatch z)
        have h7 := Sum.inr.inj (e9.trans h8)
        have hF := (congrArg (f_X4_passOne_A47) h7).trans hA_47
        exact wL67 σ_47 _ _ _ hF hw hS (kh_sub hl [0] rfl)
      · have hF := kh_iff hF c_2
        refine lv_aload_n C.1 C.2.1 dX4_passOne_52 rfl (kh_at hl 0 rfl) ?_
        refine kh_get C hw 0 6 rfl (kh_z0 σ_47) kh_kd0 (Cn := RX4) (T := TX4) (N := 10) rfl (Nat.le_of_ble_eq_true rfl) k_29 (kf_0_6 ad σ_47 0) dX4_passOne_53 ?_
        refine lv_iload_n C.1 C.2.1 dX4_passOne_56 rfl (kh_at hl 1 rfl) ?_
        obtain ⟨g_3, hF⟩ := kh_gd_ok hF
        refine kh_aald C hw 4 rfl (kh_z4 σ_47) kh_kd4 kh_ty4 g_3 dX4_passOne_57 ?_
        obtain ⟨ρ_4, h_4, hF⟩ := kh_bd_ok hF
        refine kh_callv (va_runS (As := [va_rf (kh_rc ad 13 (σ_47 4 0 0 y1_47.toNatClampNeg))]) (rest := []) ⟨C.1, C.2.1, C.2.2.1, C.2.2.2.1, C.2.2.2.2.1⟩ (c_X4_workOneMinute l D ca A ad σ_47 (σ_47 4 0 0 y1_47.toNatClampNeg) h_4) (va_cwS 1 C.2.2.2.2.1 gX4_passOne_X4_workOneMinute rfl rfl rfl (by decide +kernel) ⟨Nat.le_of_ble_eq_true rfl, Nat.le_of_ble_eq_true rfl⟩) (kh_preS C hw hS) rfl rfl hl.1.1 rfl (lv_room (kh_sum kh_an (Nat.le_of_ble_eq_true rfl))) dX4_passOne_58 ⟨Nat.le_of_ble_eq_true rfl, Nat.le_of_ble_eq_true rfl⟩) hS h_4 (fun H locs hw hS => ?_)
        refine kh_iinc (v := y1_47 + (1 : Int32)) (lv' := [(1, .int (y1_47 + (1 : Int32))), (0, .ref (ad 0 0))]) C.1 C.2.1 dX4_passOne_61 hl (k := 1) rfl (by rfl) (by decide) rfl (fun ls hl => ?_)
        refine lv_goto (tgt := 47) C.1 C.2.1 dX4_passOne_64 (by decide) ?_
        have e9 := Option.some.inj hF
        rcases hb_47 with ⟨a9, h8, h9⟩ | h8
        · have h7 := Sum.inl.inj (e9.trans h8)
          subst h7
          exact ih_47 _ _ _ _ _ h9 hw hS (kh_sub hl [1, 0] rfl)
        · exact absurd (e9.trans h8) (fun z => nomatch z)
  have wL45 : ∀ (ρ_45 : kh_S) (H : Heap) (locs : List Loc) (ls : Array Slot), f_X4_passOne_L45 ρ_45 = some q0 → kh_w D ca A ad ρ_45 H → va_S A s.heap H locs → kh_lv ls 3 [(0, .ref (ad 0 0))] → W p l e (headSpec wsX4_passOne ({ frames := 5, cells := 0, slots := 0, locals := 110 } : Room)).room s m ([.ref (ad 0 0)]).toArray below meth c H locs 0 0 (MQ below (kh_Qv D ca A ad (f_X4_passOne ρ)) ([.ref (ad 0 0)]).toArray s 0 0 A) (F0 m 45 ls []) := by
    intro ρ_45 H locs ls hF hw hS hl
    unfold f_X4_passOne_L45 at hF
    refine lv_iconst (v := (0 : Int32)) C.1 C.2.1 dX4_passOne_45 (by decide) ?_
    refine kh_istore_n (lv' := [(1, .int (0 : Int32)), (0, .ref (ad 0 0))]) C.1 C.2.1 dX4_passOne_46 rfl hl (by decide) rfl (fun ls hl => ?_)
    obtain ⟨b_47, hb_47, hF⟩ := kh_bd_ok hF
    exact wB47  b_47 hF _ ρ_45 (0 : Int32) _ _ _ hb_47 hw hS (kh_sub hl [1, 0] rfl)
  have wB12 : ∀  (b : kh_S), f_X4_passOne_A12 b = some q0 → ∀ (n : Nat) (σ_12 : kh_S) (y1_12 : Int32) (H : Heap) (locs : List Loc) (ls : Array Slot), kh_lp (fun a : kh_S × Int32 => f_X4_passOne_B12 a.1 a.2) n (σ_12, y1_12) = some b → kh_w D ca A ad σ_12 H → va_S A s.heap H locs → kh_lv ls 3 [(0, .ref (ad 0 0)), (1, .int y1_12)] → W p l e (headSpec wsX4_passOne ({ frames := 5, cells := 0, slots := 0, locals := 110 } : Room)).room s m ([.ref (ad 0 0)]).toArray below meth c H locs 0 0 (MQ below (kh_Qv D ca A ad (f_X4_passOne ρ)) ([.ref (ad 0 0)]).toArray s 0 0 A) (F0 m 12 ls []) := by
    intro  b hA_12 n
    induction n with
    | zero => intro σ_12 y1_12 H locs ls h9; exact absurd h9 (fun z => nomatch z)
    | succ n ih_12 =>
      intro σ_12 y1_12 H locs ls hb_12 hw hS hl
      obtain ⟨q_12, hF, hb_12⟩ := kh_lp_ok hb_12
      have hF : f_X4_passOne_B12 σ_12 y1_12 = some q_12 := hF
      have wL39 : ∀ (ρ_39 : kh_S) (x1_39 : Int32) (H : Heap) (locs : List Loc) (ls : Array Slot), f_X4_passOne_L39 ρ_39 x1_39 = some q_12 → kh_w D ca A ad ρ_39 H → va_S A s.heap H locs → kh_lv ls 3 [(0, .ref (ad 0 0)), (1, .int x1_39)] → W p l e (headSpec wsX4_passOne ({ frames := 5, cells := 0, slots := 0, locals := 110 } : Room)).room s m ([.ref (ad 0 0)]).toArray below meth c H locs 0 0 (MQ below (kh_Qv D ca A ad (f_X4_passOne ρ)) ([.ref (ad 0 0)]).toArray s 0 0 A) (F0 m 39 ls []) := by
        intro ρ_39 x1_39 H locs ls hF hw hS hl
        unfold f_X4_passOne_L39 at hF
        refine kh_iinc (v := x1_39 + (1 : Int32)) (lv' := [(1, .int (x1_39 + (1 : Int32))), (0, .ref (ad 0 0))]) C.1 C.2.1 dX4_passOne_39 hl (k := 1) rfl (by rfl) (by decide) rfl (fun ls hl => ?_)
        refine lv_goto (tgt := 12) C.1 C.2.1 dX4_passOne_42 (by decide) ?_
        have e9 := Option.some.inj hF
        rcases hb_12 with ⟨a9, h8, h9⟩ | h8
        · have h7 := Sum.inl.inj (e9.trans h8)
          subst h7
          exact ih_12 _ _ _ _ _ h9 hw hS (kh_sub hl [1, 0] rfl)
        · exact absurd (e9.trans h8) (fun z => nomatch z)
      unfold f_X4_passOne_B12 at hF
      refine lv_iload_n C.1 C.2.1 dX4_passOne_12 rfl (kh_at hl 1 rfl) ?_
      refine lv_aload_n C.1 C.2.1 dX4_passOne_13 rfl (kh_at hl 0 rfl) ?_
      refine kh_get C hw 0 1 rfl (kh_z0 σ_12) kh_kd0 (Cn := RX4) (T := TX4) (N := 10) rfl (Nat.le_of_ble_eq_true rfl) k_49 (kf_0_1 ad σ_12 0) dX4_passOne_14 ?_
      refine lv_icmp_ge (tgt := 45) C.1 C.2.1 dX4_passOne_17 (by decide) (fun c_5 => ?_) (fun c_5 => ?_)
      · have hF := kh_ift hF c_5
        have e9 := Option.some.inj hF
        rcases hb_12 with ⟨a9, h8, h9⟩ | h8
        · exact absurd (e9.trans h8) (fun z => nomatch z)
        have h7 := Sum.inr.inj (e9.trans h8)
        have hF := (congrArg (f_X4_passOne_A12) h7).trans hA_12
        exact wL45 σ_12 _ _ _ hF hw hS (kh_sub hl [0] rfl)
      · have hF := kh_iff hF c_5
        refine lv_aload_n C.1 C.2.1 dX4_passOne_20 rfl (kh_at hl 0 rfl) ?_
        refine kh_get C hw 0 0 rfl (kh_z0 σ_12) kh_kd0 (Cn := RX4) (T := TX4) (N := 10) rfl (Nat.le_of_ble_eq_true rfl) k_11 (kf_0_0 ad σ_12 0) dX4_passOne_21 ?_
        refine lv_iload_n C.1 C.2.1 dX4_passOne_24 rfl (kh_at hl 1 rfl) ?_
        obtain ⟨g_6, hF⟩ := kh_gd_ok hF
        refine kh_aald C hw 1 rfl (kh_z1 σ_12) kh_kd1 kh_ty1 g_6 dX4_passOne_25 ?_
        obtain ⟨g_7, hF⟩ := kh_gd_ok hF
        have v_8 := kh_in_lt g_7
        have r_9 := kh_rf (ad := ad) (k := 6) g_7
        refine kh_get C hw 6 12 r_9 v_8 kh_kd6 (Cn := RX2) (T := TX2) (N := 13) rfl (Nat.le_of_ble_eq_true rfl) k_273 (kf_6_12 ad σ_12 ((σ_12 1 0 0 y1_12.toNatClampNeg).toNatClampNeg)) dX4_passOne_26 ?_
        refine kh_astore_n (lv' := [(2, va_rf (kh_rc ad 11 (σ_12 6 12 ((σ_12 1 0 0 y1_12.toNatClampNeg).toNatClampNeg) 0))), (0, .ref (ad 0 0)), (1, .int y1_12)]) C.1 C.2.1 dX4_passOne_29 rfl hl (by decide) rfl (fun ls hl => ?_)
        refine kh_aload_n C.1 C.2.1 dX4_passOne_30 rfl (kh_at hl 0 rfl) ?_
        refine kh_ifnull (tgt := 39) C.1 C.2.1 dX4_passOne_31 (by decide) (fun c_10 => ?_) (fun c_10 => ?_)
        · have hF := kh_ift hF c_10
          exact wL39 σ_12 y1_12 _ _ _ hF hw hS (kh_sub hl [1, 2] rfl)
        · have hF := kh_iff hF c_10
          refine lv_aload_n C.1 C.2.1 dX4_passOne_34 rfl (kh_at hl 1 rfl) ?_
          refine kh_aload_n C.1 C.2.1 dX4_passOne_35 rfl (kh_at hl 0 rfl) ?_
          obtain ⟨ρ_11, h_11, hF⟩ := kh_bd_ok hF
          refine kh_callv (va_runV (As := [va_rf (kh_rc ad 11 (σ_12 6 12 ((σ_12 1 0 0 y1_12.toNatClampNeg).toNatClampNeg) 0))]) (rest := []) ⟨C.1, C.2.1, C.2.2.1, C.2.2.2.1, C.2.2.2.2.1⟩ (c_X4_leaveIfLate l D ca A ad σ_12 (σ_12 6 12 ((σ_12 1 0 0 y1_12.toNatClampNeg).toNatClampNeg) 0) h_11) (cwV 1 C.2.2.2.2.1 gX4_passOne_X4_leaveIfLate rfl rfl rfl (by decide +kernel) ⟨Nat.le_of_ble_eq_true rfl, Nat.le_of_ble_eq_true rfl⟩) (kh_preV C hw hS 0 (kh_z0 σ_12) kh_kd0 rfl) rfl rfl hl.1.1 rfl (lv_room (kh_sum kh_an (Nat.le_of_ble_eq_true rfl))) dX4_passOne_36 ⟨Nat.le_of_ble_eq_true rfl, Nat.le_of_ble_eq_true rfl⟩) hS h_11 (fun H locs hw hS => ?_)
          exact wL39 ρ_11 y1_12 _ _ _ hF hw hS (kh_sub hl [1, 2] rfl)
  refine lv_aload_n C.1 C.2.1 dX4_passOne_0 rfl (kh_at hl 0 rfl) ?_
  refine lv_dup C.1 C.2.1 dX4_passOne_1 rfl ?_
  refine kh_get C hw 0 8 rfl (kh_z0 ρ) kh_kd0 (Cn := RX4) (T := TX4) (N := 10) rfl (Nat.le_of_ble_eq_true rfl) k_231 (kf_0_8 ad ρ 0) dX4_passOne_2 ?_
  refine lv_iconst (v := (1 : Int32)) C.1 C.2.1 dX4_passOne_5 (by decide) ?_
  refine lv_iadd C.1 C.2.1 dX4_passOne_6 ?_
  refine kh_putI C hw hS 0 8 rfl (kh_z0 ρ) kh_kd0 (by decide) (Cn := RX4) (T := TX4) (N := 10) rfl (Nat.le_of_ble_eq_true rfl) (kq_0_8) k_231 rfl (by decide +kernel) dX4_passOne_7 (fun H locs hw hS => ?_)
  refine lv_iconst (v := (0 : Int32)) C.1 C.2.1 dX4_passOne_10 (by decide) ?_
  refine kh_istore_n (lv' := [(1, .int (0 : Int32)), (0, .ref (ad 0 0))]) C.1 C.2.1 dX4_passOne_11 rfl hl (by decide) rfl (fun ls hl => ?_)
  obtain ⟨b_12, hb_12, hF⟩ := kh_bd_ok hF
  exact wB12  b_12 hF _ (kh_up ρ 0 8 0 0 ((ρ 0 8 0 0) + (1 : Int32))) (0 : Int32) _ _ _ hb_12 hw hS (kh_sub hl [1, 0] rfl)

