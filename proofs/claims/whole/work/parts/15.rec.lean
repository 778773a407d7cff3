def f_X4_countOrdersOneByOne_L85 (F9 : kh_S → Int32 → Int32 → Int32 → Int32 → Option Int32) (ρ : kh_S) (x4_85 : Int32) : Option (Int32) := some x4_85
def f_X4_countOrdersOneByOne_L79 (F9 : kh_S → Int32 → Int32 → Int32 → Int32 → Option Int32) (ρ : kh_S) (x0_c24 : Int32) (x1_c24 : Int32) (x2_c24 : Int32) (x3_c24 : Int32) (x4_79 : Int32) (x5_79 : Int32) : Option ((Int32 × Int32) ⊕ (Int32)) := some (.inl (x4_79, x5_79 + (1 : Int32)))
def f_X4_countOrdersOneByOne_B24 (F9 : kh_S → Int32 → Int32 → Int32 → Int32 → Option Int32) (ρ : kh_S) (x0_c24 : Int32) (x1_c24 : Int32) (x2_c24 : Int32) (x3_c24 : Int32) (y4_24 : Int32) (y5_24 : Int32) : Option ((Int32 × Int32) ⊕ (Int32)) := kh_gd (kh_in x0_c24 (kh_n ρ 6)) (if (ρ 6 6 x0_c24.toNatClampNeg 0) ≤ y5_24 then some (.inr y4_24) else kh_bd (f_X4_has ρ x2_c24 y5_24) (fun r_5 => if r_5 = 0 then f_X4_countOrdersOneByOne_L79 F9 ρ x0_c24 x1_c24 x2_c24 x3_c24 y4_24 y5_24 else kh_bd (f_X2_isSolvable ρ x0_c24.toNatClampNeg y5_24 x1_c24) (fun r_7 => if r_7 = 0 then f_X4_countOrdersOneByOne_L79 F9 ρ x0_c24 x1_c24 x2_c24 x3_c24 y4_24 y5_24 else kh_gd (kh_in y5_24 8) (kh_bd (f_X4_without ρ x2_c24 y5_24) (fun r_10 => kh_bd (F9 ρ x0_c24 (x1_c24 ||| (ρ 8 0 x0_c24.toNatClampNeg y5_24.toNatClampNeg)) r_10 (x3_c24 + (1 : Int32))) (fun r_11 => f_X4_countOrdersOneByOne_L79 F9 ρ x0_c24 x1_c24 x2_c24 x3_c24 (y4_24 + r_11) y5_24))))))
def f_X4_countOrdersOneByOne_A24 (F9 : kh_S → Int32 → Int32 → Int32 → Int32 → Option Int32) (ρ : kh_S) (x0_c24 : Int32) (x1_c24 : Int32) (x2_c24 : Int32) (x3_c24 : Int32) : (Int32) → Option (Int32) := (fun u : Int32 => f_X4_countOrdersOneByOne_L85 F9 ρ u)
def f_X4_countOrdersOneByOne_s (F9 : kh_S → Int32 → Int32 → Int32 → Int32 → Option Int32) (ρ : kh_S) (x0 : Int32) (x1 : Int32) (x2 : Int32) (x3 : Int32) : Option (Int32) := kh_bd (f_X4_has ρ x1 (0 : Int32)) (fun r_12 => if r_12 = 0 then if x3 < (8 : Int32) then kh_bd (kh_lp (fun a : Int32 × Int32 => f_X4_countOrdersOneByOne_B24 F9 ρ x0 x1 x2 x3 a.1 a.2) 9999 ((0 : Int32), (0 : Int32))) (f_X4_countOrdersOneByOne_A24 F9 ρ x0 x1 x2 x3) else some (0 : Int32) else some (1 : Int32))
set_option maxHeartbeats 4000000 in
set_option maxRecDepth 100000 in
theorem c_X4_countOrdersOneByOne_s (l : Launch) (D : va_G) (ca : Nat → ClassId) (A : Nat → Prop) (ad : Nat → Nat → Nat) (F9 : kh_S → Int32 → Int32 → Int32 → Int32 → Option Int32) (fr lo fr2 lo2 : Nat) (h1 : fr2 + 1 ≤ fr) (h2 : 25 + lo2 ≤ lo) (h3 : 2 ≤ fr) (h4 : 43 ≤ lo) (IH : ∀ (ρ : kh_S) (x0 x1 x2 x3 : Int32) {q : Int32}, F9 ρ x0 x1 x2 x3 = some q → Met l yX4_countOrdersOneByOne wsX4_countOrdersOneByOne ({ frames := fr2, cells := 0, slots := 0, locals := lo2 } : Room) (va_Pc [va_rf (kh_rc ad 6 x0), .int x1, .int x2, .int x3] (kh_I D ca A ad ρ)) (kh_Qi D ca A ad (kh_pu (F9 ρ x0 x1 x2 x3) ρ)) 0 0 A) (ρ : kh_S) (x0 : Int32) (x1 : Int32) (x2 : Int32) (x3 : Int32) {q0 : Int32} (hF0 : f_X4_countOrdersOneByOne_s F9 ρ x0 x1 x2 x3 = some q0) : Met l yX4_countOrdersOneByOne wsX4_countOrdersOneByOne ({ frames := fr, cells := 0, slots := 0, locals := lo } : Room) (va_Pc [va_rf (kh_rc ad 6 x0), .int x1, .int x2, .int x3] (kh_I D ca A ad ρ)) (kh_Qi D ca A ad (kh_pu (f_X4_countOrdersOneByOne_s F9 ρ x0 x1 x2 x3) ρ)) 0 0 A := by
  refine Met.ofW (cc := cX4_countOrdersOneByOne) (maxL := 6) (ret := (some .int)) (by decide) rfl ?_
  intro p e s m args below meth c s₁ B hml hv
  obtain ⟨rfl, hK, hw, hA⟩ := hv
  have C : kh_C p s m ([va_rf (kh_rc ad 6 x0), .int x1, .int x2, .int x3]).toArray c cX4_countOrdersOneByOne 6 RX4 wsX4_countOrdersOneByOne D ca A := ⟨B.exec, B.bytes, hml, findClass_of_methodNamed B.named, atoms_spec (ws := wsX4_countOrdersOneByOne) B.pre, hK, hA⟩
  have hr := B.returns
  have hlocks := B.notSynchronized
  have hS : va_S A s.heap s.heap [] := va_S.rf
  have hl := kh_entry ([va_rf (kh_rc ad 6 x0), .int x1, .int x2, .int x3]) (n := 6) (kh_ac (kh_c1 _) (kh_ac rfl (kh_ac rfl (kh_ac rfl kh_an)))) (Nat.le_of_ble_eq_true rfl)
  rw [lg_entry_eq]
  generalize (lg_sl ([va_rf (kh_rc ad 6 x0), .int x1, .int x2, .int x3]) ++ List.replicate (6 - (lg_sl ([va_rf (kh_rc ad 6 x0), .int x1, .int x2, .int x3])).length) Slot.unset).toArray = ls at hl ⊢
  have hl : kh_lv ls 6 [(0, va_rf (kh_rc ad 6 x0)), (1, .int x1), (2, .int x2), (3, .int x3)] := hl
  have k_80 := C.2.2.2.2.1 (.fieldLink RX4 80 "KeylessHall$Room" "puzzleCount" "I") (by decide +kernel)
  have k_177 := C.2.2.2.2.1 (.fieldLink RX4 177 "KeylessHall$Room" "gives" "[I") (by decide +kernel)
  have hF := hF0
  unfold f_X4_countOrdersOneByOne_s at hF
  have wL85 : ∀ (x4_85 : Int32) (H : Heap) (locs : List Loc) (ls : Array Slot), f_X4_countOrdersOneByOne_L85 F9 ρ x4_85 = some q0 → kh_w D ca A ad ρ H → va_S A s.heap H locs → kh_lv ls 6 [(4, .int x4_85)] → W p l e (headSpec wsX4_countOrdersOneByOne ({ frames := fr, cells := 0, slots := 0, locals := lo } : Room)).room s m ([va_rf (kh_rc ad 6 x0), .int x1, .int x2, .int x3]).toArray below meth c H locs 0 0 (MQ below (kh_Qi D ca A ad (kh_pu (f_X4_countOrdersOneByOne_s F9 ρ x0 x1 x2 x3) ρ)) ([va_rf (kh_rc ad 6 x0), .int x1, .int x2, .int x3]).toArray s 0 0 A) (F0 m 85 ls []) := by
    intro x4_85 H locs ls hF hw hS hl
    unfold f_X4_countOrdersOneByOne_L85 at hF
    refine lv_iload C.1 C.2.1 dX4_countOrdersOneByOne_85 (kh_at hl 0 rfl) ?_
    exact W.iret (v := x4_85) C.1 C.2.1 hr (fun t ht hW => ⟨⟨x4_85, ρ, rfl, kh_mp (hF0.trans hF.symm), kh_bk ht hw⟩, hS.F ht⟩) hS.2.2 dX4_countOrdersOneByOne_87
  have wB24 : ∀ (x0_c24 : Int32) (x1_c24 : Int32) (x2_c24 : Int32) (x3_c24 : Int32) (b : Int32), f_X4_countOrdersOneByOne_A24 F9 ρ x0_c24 x1_c24 x2_c24 x3_c24 b = some q0 → ∀ (n : Nat) (y4_24 : Int32) (y5_24 : Int32) (H : Heap) (locs : List Loc) (ls : Array Slot), kh_lp (fun a : Int32 × Int32 => f_X4_countOrdersOneByOne_B24 F9 ρ x0_c24 x1_c24 x2_c24 x3_c24 a.1 a.2) n (y4_24, y5_24) = some b → kh_w D ca A ad ρ H → va_S A s.heap H locs → kh_lv ls 6 [(0, va_rf (kh_rc ad 6 x0_c24)), (1, .int x1_c24), (2, .int x2_c24), (3, .int x3_c24), (4, .int y4_24), (5, .int y5_24)] → W p l e (headSpec wsX4_countOrdersOneByOne ({ frames := fr, cells := 0, slots := 0, locals := lo } : Room)).room s m ([va_rf (kh_rc ad 6 x0), .int x1, .int x2, .int x3]).toArray below meth c H locs 0 0 (MQ below (kh_Qi D ca A ad (kh_pu (f_X4_countOrdersOneByOne_s F9 ρ x0 x1 x2 x3) ρ)) ([va_rf (kh_rc ad 6 x0), .int x1, .int x2, .int x3]).toArray s 0 0 A) (F0 m 24 ls []) := by
    intro x0_c24 x1_c24 x2_c24 x3_c24 b hA_24 n
    induction n with
    | zero => intro y4_24 y5_24 H locs ls h9; exact absurd h9 (fun z => nomatch z)
    | succ n ih_24 =>
      intro y4_24 y5_24 H locs ls hb_24 hw hS hl
      obtain ⟨q_24, hF, hb_24⟩ := kh_lp_ok hb_24
      have hF : f_X4_countOrdersOneByOne_B24 F9 ρ x0_c24 x1_c24 x2_c24 x3_c24 y4_24 y5_24 = some q_24 := hF
      have wL79 : ∀ (x4_79 : Int32) (x5_79 : Int32) (H : Heap) (locs : List Loc) (ls : Array Slot), f_X4_countOrdersOneByOne_L79 F9 ρ x0_c24 x1_c24 x2_c24 x3_c24 x4_79 x5_79 = some q_24 → kh_w D ca A ad ρ H → va_S A s.heap H locs → kh_lv ls 6 [(0, va_rf (kh_rc ad 6 x0_c24)), (1, .int x1_c24), (2, .int x2_c24), (3, .int x3_c24), (4, .int x4_79), (5, .int x5_79)] → W p l e (headSpec wsX4_countOrdersOneByOne ({ frames := fr, cells := 0, slots := 0, locals := lo } : Room)).room s m ([va_rf (kh_rc ad 6 x0), .int x1, .int x2, .int x3]).toArray below meth c H locs 0 0 (MQ below (kh_Qi D ca A ad (kh_pu (f_X4_countOrdersOneByOne_s F9 ρ x0 x1 x2 x3) ρ)) ([va_rf (kh_rc ad 6 x0), .int x1, .int x2, .int x3]).toArray s 0 0 A) (F0 m 79 ls []) := by
        intro x4_79 x5_79 H locs ls hF hw hS hl
        unfold f_X4_countOrdersOneByOne_L79 at hF
        refine kh_iinc (v := x5_79 + (1 : Int32)) (lv' := [(5, .int (x5_79 + (1 : Int32))), (0, va_rf (kh_rc ad 6 x0_c24)), (1, .int x1_c24), (2, .int x2_c24), (3, .int x3_c24), (4, .int x4_79)]) C.1 C.2.1 dX4_countOrdersOneByOne_79 hl (k := 5) rfl (by rfl) (by decide) rfl (fun ls hl => ?_)
        refine lv_goto (tgt := 24) C.1 C.2.1 dX4_countOrdersOneByOne_82 (by decide) ?_
        have e9 := Option.some.inj hF
        rcases hb_24 with ⟨a9, h8, h9⟩ | h8
        · have h7 := Sum.inl.inj (e9.trans h8)
          subst h7
          exact ih_24 _ _ _ _ _ h9 hw hS (kh_sub hl [1, 2, 3, 4, 5, 0] rfl)
        · exact absurd (e9.trans h8) (fun z => nomatch z)
      unfold f_X4_countOrdersOneByOne_B24 at hF
      refine lv_iload C.1 C.2.1 dX4_countOrdersOneByOne_24 (kh_at hl 5 rfl) ?_
      refine kh_aload_n C.1 C.2.1 dX4_countOrdersOneByOne_26 rfl (kh_at hl 0 rfl) ?_
      obtain ⟨g_1, hF⟩ := kh_gd_ok hF
      have v_2 := kh_in_lt g_1
      have r_3 := kh_rf (ad := ad) (k := 6) g_1
      refine kh_get C hw 6 6 r_3 v_2 kh_kd6 (Cn := RX2) (T := TX2) (N := 13) rfl (Nat.le_of_ble_eq_true rfl) k_80 (kf_6_6 ad ρ x0_c24.toNatClampNeg) dX4_countOrdersOneByOne_27 ?_
      refine lv_icmp_ge (tgt := 85) C.1 C.2.1 dX4_countOrdersOneByOne_30 (by decide) (fun c_4 => ?_) (fun c_4 => ?_)
      · have hF := kh_ift hF c_4
        have e9 := Option.some.inj hF
        rcases hb_24 with ⟨a9, h8, h9⟩ | h8
        · exact absurd (e9.trans h8) (fun z => nomatch z)
        have h7 := Sum.inr.inj (e9.trans h8)
        have hF := (congrArg (f_X4_countOrdersOneByOne_A24 F9 ρ x0_c24 x1_c24 x2_c24 x3_c24) h7).trans hA_24
        exact wL85 y4_24 _ _ _ hF hw hS (kh_sub hl [4] rfl)
      · have hF := kh_iff hF c_4
        refine lv_iload_n C.1 C.2.1 dX4_countOrdersOneByOne_33 rfl (kh_at hl 2 rfl) ?_
        refine lv_iload C.1 C.2.1 dX4_countOrdersOneByOne_34 (kh_at hl 5 rfl) ?_
        obtain ⟨r_5, h_5, hF⟩ := kh_bd_ok hF
        refine kh_calli (va_runS (As := [.int x2_c24, .int y5_24]) (rest := []) ⟨C.1, C.2.1, C.2.2.1, C.2.2.2.1, C.2.2.2.2.1⟩ (c_X4_has l D ca A ad ρ x2_c24 y5_24 h_5) (va_cwS 2 C.2.2.2.2.1 gX4_countOrdersOneByOne_X4_has rfl rfl rfl (by decide +kernel) ⟨by show 0 + 1 ≤ fr; omega, by show 8 + (2 + 11) + 0 ≤ lo; omega⟩) (kh_preS C hw hS) rfl rfl hl.1.1 rfl (lv_room (kh_sum kh_an (Nat.le_of_ble_eq_true rfl))) dX4_countOrdersOneByOne_36 ⟨Nat.le_of_ble_eq_true rfl, Nat.le_of_ble_eq_true rfl⟩) hS (kh_mp h_5) (fun H locs hw hS => ?_)
        refine lv_if_eq (tgt := 79) C.1 C.2.1 dX4_countOrdersOneByOne_39 (by decide) (fun c_6 => ?_) (fun c_6 => ?_)
        · have hF := kh_ift hF c_6
          exact wL79 y4_24 y5_24 _ _ _ hF hw hS (kh_sub hl [0, 1, 2, 3, 4, 5] rfl)
        · have hF := kh_iff hF c_6
          refine kh_aload_n C.1 C.2.1 dX4_countOrdersOneByOne_42 rfl (kh_at hl 0 rfl) ?_
          refine lv_iload C.1 C.2.1 dX4_countOrdersOneByOne_43 (kh_at hl 5 rfl) ?_
          refine lv_iload_n C.1 C.2.1 dX4_countOrdersOneByOne_45 rfl (kh_at hl 1 rfl) ?_
          obtain ⟨r_7, h_7, hF⟩ := kh_bd_ok hF
          refine kh_calli (va_runV (As := [.int y5_24, .int x1_c24]) (rest := []) ⟨C.1, C.2.1, C.2.2.1, C.2.2.2.1, C.2.2.2.2.1⟩ (c_X2_isSolvable l D ca A ad ρ x0_c24.toNatClampNeg y5_24 x1_c24 h_7) (cwV 2 C.2.2.2.2.1 gX4_countOrdersOneByOne_X2_isSolvable rfl rfl rfl (by decide +kernel) ⟨by show 1 + 1 ≤ fr; omega, by show 8 + (3 + 11) + 21 ≤ lo; omega⟩) (kh_preV C hw hS 6 v_2 kh_kd6 rfl) rfl rfl hl.1.1 (by show _ = _; rw [r_3]; rfl) (lv_room (kh_sum kh_an (Nat.le_of_ble_eq_true rfl))) dX4_countOrdersOneByOne_46 ⟨Nat.le_of_ble_eq_true rfl, Nat.le_of_ble_eq_true rfl⟩) hS (kh_mp h_7) (fun H locs hw hS => ?_)
          refine lv_if_eq (tgt := 79) C.1 C.2.1 dX4_countOrdersOneByOne_49 (by decide) (fun c_8 => ?_) (fun c_8 => ?_)
          · have hF := kh_ift hF c_8
            exact wL79 y4_24 y5_24 _ _ _ hF hw hS (kh_sub hl [0, 1, 2, 3, 4, 5] rfl)
          · have hF := kh_iff hF c_8
            refine lv_iload C.1 C.2.1 dX4_countOrdersOneByOne_52 (kh_at hl 4 rfl) ?_
            refine kh_aload_n C.1 C.2.1 dX4_countOrdersOneByOne_54 rfl (kh_at hl 0 rfl) ?_
            refine lv_iload_n C.1 C.2.1 dX4_countOrdersOneByOne_55 rfl (kh_at hl 1 rfl) ?_
            refine kh_aload_n C.1 C.2.1 dX4_countOrdersOneByOne_56 rfl (kh_at hl 0 rfl) ?_
            refine kh_get C hw 6 3 r_3 v_2 kh_kd6 (Cn := RX2) (T := TX2) (N := 13) rfl (Nat.le_of_ble_eq_true rfl) k_177 (kf_6_3 ad ρ x0_c24.toNatClampNeg) dX4_countOrdersOneByOne_57 ?_
            refine lv_iload C.1 C.2.1 dX4_countOrdersOneByOne_60 (kh_at hl 5 rfl) ?_
            obtain ⟨g_9, hF⟩ := kh_gd_ok hF
            refine kh_iald C hw 8 rfl v_2 kh_kd8 g_9 dX4_countOrdersOneByOne_62 ?_
            refine lv_ior C.1 C.2.1 dX4_countOrdersOneByOne_63 ?_
            refine lv_iload_n C.1 C.2.1 dX4_countOrdersOneByOne_64 rfl (kh_at hl 2 rfl) ?_
            refine lv_iload C.1 C.2.1 dX4_countOrdersOneByOne_65 (kh_at hl 5 rfl) ?_
            obtain ⟨r_10, h_10, hF⟩ := kh_bd_ok hF
            refine kh_calli (va_runS (As := [.int x2_c24, .int y5_24]) (rest := [.int (x1_c24 ||| (ρ 8 0 x0_c24.toNatClampNeg y5_24.toNatClampNeg)), va_rf (kh_rc ad 6 x0_c24), .int y4_24]) ⟨C.1, C.2.1, C.2.2.1, C.2.2.2.1, C.2.2.2.2.1⟩ (c_X4_without l D ca A ad ρ x2_c24 y5_24 h_10) (va_cwS 2 C.2.2.2.2.1 gX4_countOrdersOneByOne_X4_without rfl rfl rfl (by decide +kernel) ⟨by show 0 + 1 ≤ fr; omega, by show 8 + (2 + 11) + 0 ≤ lo; omega⟩) (kh_preS C hw hS) rfl rfl hl.1.1 rfl (lv_room (kh_sum (kh_ac rfl (kh_ac (kh_c1 _) (kh_ac rfl kh_an))) (Nat.le_of_ble_eq_true rfl))) dX4_countOrdersOneByOne_67 ⟨Nat.le_of_ble_eq_true rfl, Nat.le_of_ble_eq_true rfl⟩) hS (kh_mp h_10) (fun H locs hw hS => ?_)
            refine lv_iload_n C.1 C.2.1 dX4_countOrdersOneByOne_70 rfl (kh_at hl 3 rfl) ?_
            refine lv_iconst (v := (1 : Int32)) C.1 C.2.1 dX4_countOrdersOneByOne_71 (by decide) ?_
            refine lv_iadd C.1 C.2.1 dX4_countOrdersOneByOne_72 ?_
            obtain ⟨r_11, h_11, hF⟩ := kh_bd_ok hF
            refine kh_calli (va_runS (As := [va_rf (kh_rc ad 6 x0_c24), .int (x1_c24 ||| (ρ 8 0 x0_c24.toNatClampNeg y5_24.toNatClampNeg)), .int r_10, .int (x3_c24 + (1 : Int32))]) (rest := [.int y4_24]) ⟨C.1, C.2.1, C.2.2.1, C.2.2.2.1, C.2.2.2.2.1⟩ (IH ρ x0_c24 (x1_c24 ||| (ρ 8 0 x0_c24.toNatClampNeg y5_24.toNatClampNeg)) r_10 (x3_c24 + (1 : Int32)) h_11) (va_cwS 4 C.2.2.2.2.1 gX4_countOrdersOneByOne_X4_countOrdersOneByOne rfl rfl rfl (by decide +kernel) ⟨by show fr2 + 1 ≤ fr; omega, by show 8 + (6 + 11) + lo2 ≤ lo; omega⟩) (kh_preS C hw hS) rfl rfl hl.1.1 rfl (lv_room (kh_sum (kh_ac rfl kh_an) (Nat.le_of_ble_eq_true rfl))) dX4_countOrdersOneByOne_73 ⟨Nat.le_of_ble_eq_true rfl, Nat.le_of_ble_eq_true rfl⟩) hS (kh_mp h_11) (fun H locs hw hS => ?_)
            refine lv_iadd C.1 C.2.1 dX4_countOrdersOneByOne_76 ?_
            refine kh_istore (lv' := [(4, .int (y4_24 + r_11)), (0, va_rf (kh_rc ad 6 x0_c24)), (1, .int x1_c24), (2, .int x2_c24), (3, .int x3_c24), (5, .int y5_24)]) C.1 C.2.1 dX4_countOrdersOneByOne_77 hl (by decide) rfl (fun ls hl => ?_)
            exact wL79 (y4_24 + r_11) y5_24 _ _ _ hF hw hS (kh_sub hl [1, 2, 3, 4, 0, 5] rfl)
  refine lv_iload_n C.1 C.2.1 dX4_countOrdersOneByOne_0 rfl (kh_at hl 1 rfl) ?_
  refine lv_iconst (v := (0 : Int32)) C.1 C.2.1 dX4_countOrdersOneByOne_1 (by decide) ?_
  obtain ⟨r_12, h_12, hF⟩ := kh_bd_ok hF
  refine kh_calli (va_runS (As := [.int x1, .int (0 : Int32)]) (rest := []) ⟨C.1, C.2.1, C.2.2.1, C.2.2.2.1, C.2.2.2.2.1⟩ (c_X4_has l D ca A ad ρ x1 (0 : Int32) h_12) (va_cwS 2 C.2.2.2.2.1 gX4_countOrdersOneByOne_X4_has rfl rfl rfl (by decide +kernel) ⟨by show 0 + 1 ≤ fr; omega, by show 8 + (2 + 11) + 0 ≤ lo; omega⟩) (kh_preS C hw hS) rfl rfl hl.1.1 rfl (lv_room (kh_sum kh_an (Nat.le_of_ble_eq_true rfl))) dX4_countOrdersOneByOne_2 ⟨Nat.le_of_ble_eq_true rfl, Nat.le_of_ble_eq_true rfl⟩) hS (kh_mp h_12) (fun H locs hw hS => ?_)
  refine lv_if_eq (tgt := 10) C.1 C.2.1 dX4_countOrdersOneByOne_5 (by decide) (fun c_13 => ?_) (fun c_13 => ?_)
  · have hF := kh_ift hF c_13
    refine lv_iload_n C.1 C.2.1 dX4_countOrdersOneByOne_10 rfl (kh_at hl 3 rfl) ?_
    refine lv_bipush (v := (8 : Int32)) C.1 C.2.1 dX4_countOrdersOneByOne_11 (by decide) ?_
    refine lv_icmp_lt (tgt := 18) C.1 C.2.1 dX4_countOrdersOneByOne_13 (by decide) (fun c_14 => ?_) (fun c_14 => ?_)
    · have hF := kh_ift hF c_14
      refine lv_iconst (v := (0 : Int32)) C.1 C.2.1 dX4_countOrdersOneByOne_18 (by decide) ?_
      refine kh_istore (lv' := [(4, .int (0 : Int32)), (0, va_rf (kh_rc ad 6 x0)), (1, .int x1), (2, .int x2), (3, .int x3)]) C.1 C.2.1 dX4_countOrdersOneByOne_19 hl (by decide) rfl (fun ls hl => ?_)
      refine lv_iconst (v := (0 : Int32)) C.1 C.2.1 dX4_countOrdersOneByOne_21 (by decide) ?_
      refine kh_istore (lv' := [(5, .int (0 : Int32)), (4, .int (0 : Int32)), (0, va_rf (kh_rc ad 6 x0)), (1, .int x1), (2, .int x2), (3, .int x3)]) C.1 C.2.1 dX4_countOrdersOneByOne_22 hl (by decide) rfl (fun ls hl => ?_)
      obtain ⟨b_24, hb_24, hF⟩ := kh_bd_ok hF
      exact wB24 x0 x1 x2 x3 b_24 hF _ (0 : Int32) (0 : Int32) _ _ _ hb_24 hw hS (kh_sub hl [2, 3, 4, 5, 1, 0] rfl)
    · have hF := kh_iff hF c_14
      refine lv_iconst (v := (0 : Int32)) C.1 C.2.1 dX4_countOrdersOneByOne_16 (by decide) ?_
      exact W.iret (v := (0 : Int32)) C.1 C.2.1 hr (fun t ht hW => ⟨⟨(0 : Int32), ρ, rfl, kh_mp (hF0.trans hF.symm), kh_bk ht hw⟩, hS.F ht⟩) hS.2.2 dX4_countOrdersOneByOne_17
  · have hF := kh_iff hF c_13
    refine lv_iconst (v := (1 : Int32)) C.1 C.2.1 dX4_countOrdersOneByOne_8 (by decide) ?_
    exact W.iret (v := (1 : Int32)) C.1 C.2.1 hr (fun t ht hW => ⟨⟨(1 : Int32), ρ, rfl, kh_mp (hF0.trans hF.symm), kh_bk ht hw⟩, hS.F ht⟩) hS.2.2 dX4_countOrdersOneByOne_9
def f_X4_countOrdersOneByOne : Nat → kh_S → Int32 → Int32 → Int32 → Int32 → Option Int32
  | 0 => fun _ _ _ _ _ => none
  | n + 1 => f_X4_countOrdersOneByOne_s (f_X4_countOrdersOneByOne n)
theorem c_X4_countOrdersOneByOne (l : Launch) (D : va_G) (ca : Nat → ClassId) (A : Nat → Prop) (ad : Nat → Nat → Nat) : ∀ (n : Nat) (ρ : kh_S) (x0 x1 x2 x3 : Int32) {q : Int32}, f_X4_countOrdersOneByOne n ρ x0 x1 x2 x3 = some q → Met l yX4_countOrdersOneByOne wsX4_countOrdersOneByOne ({ frames := n + 2, cells := 0, slots := 0, locals := 43 + 25 * n } : Room) (va_Pc [va_rf (kh_rc ad 6 x0), .int x1, .int x2, .int x3] (kh_I D ca A ad ρ)) (kh_Qi D ca A ad (kh_pu (f_X4_countOrdersOneByOne n ρ x0 x1 x2 x3) ρ)) 0 0 A
  | 0, _, _, _, _, _, _, h => nomatch h
  | n + 1, ρ, x0, x1, x2, x3, _, h => c_X4_countOrdersOneByOne_s l D ca A ad (f_X4_countOrdersOneByOne n) (n + 1 + 2) (43 + 25 * (n + 1)) (n + 2) (43 + 25 * n) (by omega) (by omega) (by omega) (by omega) (fun ρ x0 x1 x2 x3 _ h => c_X4_countOrdersOneByOne l D ca A ad n ρ x0 x1 x2 x3 h) ρ x0 x1 x2 x3 h

def f_X4_ordersAnew (ρ : kh_S) (x1 : Int32) : Option (String ⊕ Int32) := kh_bx (f_X4_roomNumbered ρ x1) (fun e_1 => some (.inl e_1)) (fun r_1 => kh_gd (kh_in r_1 (kh_n ρ 6)) (kh_bd (f_X2_working ρ r_1.toNatClampNeg (ρ 0 7 0 0)) (fun r_5 => kh_bd (f_X2_reach ρ r_1.toNatClampNeg (ρ 6 1 r_1.toNatClampNeg 0) r_5) (fun r_6 => kh_bd (f_X4_has ρ r_6 (0 : Int32)) (fun r_7 => if r_7 = 0 then some (.inr (0 : Int32)) else kh_bd (f_X4_countOrdersOneByOne 10 ρ r_1 (ρ 6 1 r_1.toNatClampNeg 0) r_5 (0 : Int32)) (fun r_9 => some (.inr r_9)))))))
set_option maxHeartbeats 4000000 in
set_option maxRecDepth 100000 in
theorem c_X4_ordersAnew (l : Launch) (hlt : l.stackTraces = false) (D : va_G) (ca : Nat → ClassId) (A : Nat → Prop) (ad : Nat → Nat → Nat) (ρ : kh_S) (x1 : Int32) {q0 : String ⊕ Int32} (hF0 : f_X4_ordersAnew ρ x1 = some q0) : vx_Met l yX4_ordersAnew wsX4_ordersAnew ({ frames := 13, cells := 1, slots := 6, locals := 318 } : Room) (va_Pc [.ref (ad 0 0), .int x1] (kh_J D ca A ad ρ)) (kh_Yi D ca A ad (kh_pt (f_X4_ordersAnew ρ x1) ρ)) (kh_X D ca A ad (kh_pt (f_X4_ordersAnew ρ x1) ρ)) 1 6 A := by
  refine vx_ofW (cc := cX4_ordersAnew) (maxL := 4) (ret := (some .int)) (by decide) rfl ?_
  intro p e s m args below meth c s₁ B hml hout hv
  obtain ⟨rfl, ⟨hK, hw, hA⟩, hT⟩ := hv
  have C : kh_C p s m ([.ref (ad 0 0), .int x1]).toArray c cX4_ordersAnew 4 RX4 wsX4_ordersAnew D ca A := ⟨B.exec, B.bytes, hml, findClass_of_methodNamed B.named, atoms_spec (ws := wsX4_ordersAnew) B.pre, hK, hA⟩
  have hr := B.returns
  have hlocks := B.notSynchronized
  have hS : va_S A s.heap s.heap [] := va_S.rf
  have hl := kh_entry ([.ref (ad 0 0), .int x1]) (n := 4) (kh_ac rfl (kh_ac rfl kh_an)) (Nat.le_of_ble_eq_true rfl)
  rw [lg_entry_eq]
  generalize (lg_sl ([.ref (ad 0 0), .int x1]) ++ List.replicate (4 - (lg_sl ([.ref (ad 0 0), .int x1])).length) Slot.unset).toArray = ls at hl ⊢
  have hl : kh_lv ls 4 [(0, .ref (ad 0 0)), (1, .int x1)] := hl
  have k_91 := C.2.2.2.2.1 (.fieldLink RX4 91 "KeylessHall" "brokenProps" "I") (by decide +kernel)
  have k_120 := C.2.2.2.2.1 (.fieldLink RX4 120 "KeylessHall$Room" "things" "I") (by decide +kernel)
  have hF := hF0
  unfold f_X4_ordersAnew at hF
  refine lv_aload_n C.1 C.2.1 dX4_ordersAnew_0 rfl (kh_at hl 0 rfl) ?_
  refine lv_iload_n C.1 C.2.1 dX4_ordersAnew_1 rfl (kh_at hl 1 rfl) ?_
  rcases kh_bx_ok hF with ⟨e_1, h_1, hF⟩ | ⟨r_1, h_1, hF⟩
  · refine kh_xcallX (vx_runV (As := [.int x1]) (rest := []) ⟨C.1, C.2.1, C.2.2.1, C.2.2.2.1, C.2.2.2.2.1⟩ (c_X4_roomNumbered l hlt D ca A ad ρ x1 h_1) (cwV 1 C.2.2.2.2.1 gX4_ordersAnew_X4_roomNumbered rfl rfl rfl (by decide +kernel) ⟨Nat.le_of_ble_eq_true rfl, Nat.le_of_ble_eq_true rfl⟩) (kh_preVJ C hT hw hS 0 (kh_z0 ρ) kh_kd0 rfl) rfl rfl hl.1.1 rfl (lv_room (kh_sum kh_an (Nat.le_of_ble_eq_true rfl))) dX4_ordersAnew_2 ⟨Nat.le_of_ble_eq_true rfl, Nat.le_of_ble_eq_true rfl⟩) hS (kh_pl h_1) (kh_notYq (kh_pl h_1)) (fun H locs ce q9 hw hS h7 h8 h9 => ?_)
    exact kh_out hout hlocks h7 h8 h9 hw hS (kh_pl (hF0.trans hF.symm)) (Nat.le_of_ble_eq_true rfl) (Nat.le_of_ble_eq_true rfl)
  refine kh_xcallq (vx_runV (As := [.int x1]) (rest := []) ⟨C.1, C.2.1, C.2.2.1, C.2.2.2.1, C.2.2.2.2.1⟩ (c_X4_roomNumbered l hlt D ca A ad ρ x1 h_1) (cwV 1 C.2.2.2.2.1 gX4_ordersAnew_X4_roomNumbered rfl rfl rfl (by decide +kernel) ⟨Nat.le_of_ble_eq_true rfl, Nat.le_of_ble_eq_true rfl⟩) (kh_preVJ C hT hw hS 0 (kh_z0 ρ) kh_kd0 rfl) rfl rfl hl.1.1 rfl (lv_room (kh_sum kh_an (Nat.le_of_ble_eq_true rfl))) dX4_ordersAnew_2 ⟨Nat.le_of_ble_eq_true rfl, Nat.le_of_ble_eq_true rfl⟩) hS (kh_pr h_1) (fun H locs hw hS => ?_)
  refine kh_astore_n (lv' := [(2, va_rf (kh_rc ad 6 r_1)), (0, .ref (ad 0 0)), (1, .int x1)]) C.1 C.2.1 dX4_ordersAnew_5 rfl hl (by decide) rfl (fun ls hl => ?_)
  refine kh_aload_n C.1 C.2.1 dX4_ordersAnew_6 rfl (kh_at hl 0 rfl) ?_
  refine lv_aload_n C.1 C.2.1 dX4_ordersAnew_7 rfl (kh_at hl 1 rfl) ?_
  refine kh_get C hw 0 7 rfl (kh_z0 ρ) kh_kd0 (Cn := RX4) (T := TX4) (N := 10) rfl (Nat.le_of_ble_eq_true rfl) k_91 (kf_0_7 ad ρ 0) dX4_ordersAnew_8 ?_
  obtain ⟨g_2, hF⟩ := kh_gd_ok hF
  have v_3 := kh_in_lt g_2
  have r_4 := kh_rf (ad := ad) (k := 6) g_2
  obtain ⟨r_5, h_5, hF⟩ := kh_bd_ok hF
  refine kh_calli (va_runV (As := [.int (ρ 0 7 0 0)]) (rest := []) ⟨C.1, C.2.1, C.2.2.1, C.2.2.2.1, C.2.2.2.2.1⟩ (c_X2_working l D ca A ad ρ r_1.toNatClampNeg (ρ 0 7 0 0) h_5) (cwV 1 C.2.2.2.2.1 gX4_ordersAnew_X2_working rfl rfl rfl (by decide +kernel) ⟨Nat.le_of_ble_eq_true rfl, Nat.le_of_ble_eq_true rfl⟩) (kh_preV C hw hS 6 v_3 kh_kd6 rfl) rfl rfl hl.1.1 (by show _ = _; rw [r_4]; rfl) (lv_room (kh_sum kh_an (Nat.le_of_ble_eq_true rfl))) dX4_ordersAnew_11 ⟨Nat.le_of_ble_eq_true rfl, Nat.le_of_ble_eq_true rfl⟩) hS (kh_mp h_5) (fun H locs hw hS => ?_)
  refine kh_istore_n (lv' := [(3, .int r_5), (2, va_rf (kh_rc ad 6 r_1)), (0, .ref (ad 0 0)), (1, .int x1)]) C.1 C.2.1 dX4_ordersAnew_14 rfl hl (by decide) rfl (fun ls hl => ?_)
  refine kh_aload_n C.1 C.2.1 dX4_ordersAnew_15 rfl (kh_at hl 1 rfl) ?_
  refine kh_aload_n C.1 C.2.1 dX4_ordersAnew_16 rfl (kh_at hl 1 rfl) ?_
  refine kh_get C hw 6 1 r_4 v_3 kh_kd6 (Cn := RX2) (T := TX2) (N := 13) rfl (Nat.le_of_ble_eq_true rfl) k_120 (kf_6_1 ad ρ r_1.toNatClampNeg) dX4_ordersAnew_17 ?_
  refine lv_iload_n C.1 C.2.1 dX4_ordersAnew_20 rfl (kh_at hl 0 rfl) ?_
  obtain ⟨r_6, h_6, hF⟩ := kh_bd_ok hF
  refine kh_calli (va_runV (As := [.int (ρ 6 1 r_1.toNatClampNeg 0), .int r_5]) (rest := []) ⟨C.1, C.2.1, C.2.2.1, C.2.2.2.1, C.2.2.2.2.1⟩ (c_X2_reach l D ca A ad ρ r_1.toNatClampNeg (ρ 6 1 r_1.toNatClampNeg 0) r_5 h_6) (cwV 2 C.2.2.2.2.1 gX4_ordersAnew_X2_reach rfl rfl rfl (by decide +kernel) ⟨Nat.le_of_ble_eq_true rfl, Nat.le_of_ble_eq_true rfl⟩) (kh_preV C hw hS 6 v_3 kh_kd6 rfl) rfl rfl hl.1.1 (by show _ = _; rw [r_4]; rfl) (lv_room (kh_sum kh_an (Nat.le_of_ble_eq_true rfl))) dX4_ordersAnew_21 ⟨Nat.le_of_ble_eq_true rfl, Nat.le_of_ble_eq_true rfl⟩) hS (kh_mp h_6) (fun H locs hw hS => ?_)
  refine lv_iconst (v := (0 : Int32)) C.1 C.2.1 dX4_ordersAnew_24 (by decide) ?_
  obtain ⟨r_7, h_7, hF⟩ := kh_bd_ok hF
  refine kh_calli (va_runS (As := [.int r_6, .int (0 : Int32)]) (rest := []) ⟨C.1, C.2.1, C.2.2.1, C.2.2.2.1, C.2.2.2.2.1⟩ (c_X4_has l D ca A ad ρ r_6 (0 : Int32) h_7) (va_cwS 2 C.2.2.2.2.1 gX4_ordersAnew_X4_has rfl rfl rfl (by decide +kernel) ⟨Nat.le_of_ble_eq_true rfl, Nat.le_of_ble_eq_true rfl⟩) (kh_preS C hw hS) rfl rfl hl.1.1 rfl (lv_room (kh_sum kh_an (Nat.le_of_ble_eq_true rfl))) dX4_ordersAnew_25 ⟨Nat.le_of_ble_eq_true rfl, Nat.le_of_ble_eq_true rfl⟩) hS (kh_mp h_7) (fun H locs hw hS => ?_)
  refine lv_if_ne (tgt := 33) C.1 C.2.1 dX4_ordersAnew_28 (by decide) (fun c_8 => ?_) (fun c_8 => ?_)
  · have hF := kh_iff hF c_8
    refine kh_aload_n C.1 C.2.1 dX4_ordersAnew_33 rfl (kh_at hl 1 rfl) ?_
    refine kh_aload_n C.1 C.2.1 dX4_ordersAnew_34 rfl (kh_at hl 1 rfl) ?_
    refine kh_get C hw 6 1 r_4 v_3 kh_kd6 (Cn := RX2) (T := TX2) (N := 13) rfl (Nat.le_of_ble_eq_true rfl) k_120 (kf_6_1 ad ρ r_1.toNatClampNeg) dX4_ordersAnew_35 ?_
    refine lv_iload_n C.1 C.2.1 dX4_ordersAnew_38 rfl (kh_at hl 0 rfl) ?_
    refine lv_iconst (v := (0 : Int32)) C.1 C.2.1 dX4_ordersAnew_39 (by decide) ?_
    obtain ⟨r_9, h_9, hF⟩ := kh_bd_ok hF
    refine kh_calli (va_runS (As := [va_rf (kh_rc ad 6 r_1), .int (ρ 6 1 r_1.toNatClampNeg 0), .int r_5, .int (0 : Int32)]) (rest := []) ⟨C.1, C.2.1, C.2.2.1, C.2.2.2.1, C.2.2.2.2.1⟩ (c_X4_countOrdersOneByOne l D ca A ad 10 ρ r_1 (ρ 6 1 r_1.toNatClampNeg 0) r_5 (0 : Int32) h_9) (va_cwS 4 C.2.2.2.2.1 gX4_ordersAnew_X4_countOrdersOneByOne rfl rfl rfl (by decide +kernel) ⟨Nat.le_of_ble_eq_true rfl, Nat.le_of_ble_eq_true rfl⟩) (kh_preS C hw hS) rfl rfl hl.1.1 rfl (lv_room (kh_sum kh_an (Nat.le_of_ble_eq_true rfl))) dX4_ordersAnew_40 ⟨Nat.le_of_ble_eq_true rfl, Nat.le_of_ble_eq_true rfl⟩) hS (kh_mp h_9) (fun H locs hw hS => ?_)
    refine vx_ret (W.widen (k := 1) (n := 6) (Nat.le_of_ble_eq_true rfl) (Nat.le_of_ble_eq_true rfl) ?_)
    exact W.iret (v := r_9) C.1 C.2.1 hr (fun t ht hW => ⟨⟨r_9, ρ, rfl, kh_pr (hF0.trans hF.symm), kh_bk ht hw⟩, hS.F ht⟩) hS.2.2 dX4_ordersAnew_43
  · have hF := kh_ift hF c_8
    refine lv_iconst (v := (0 : Int32)) C.1 C.2.1 dX4_ordersAnew_31 (by decide) ?_
    refine vx_ret (W.widen (k := 1) (n := 6) (Nat.le_of_ble_eq_true rfl) (Nat.le_of_ble_eq_true rfl) ?_)
    exact W.iret (v := (0 : Int32)) C.1 C.2.1 hr (fun t ht hW => ⟨⟨(0 : Int32), ρ, rfl, kh_pr (hF0.trans hF.symm), kh_bk ht hw⟩, hS.F ht⟩) hS.2.2 dX4_ordersAnew_32

