/-! from the law's entry to its loop -/
set_option maxHeartbeats 4000000 in
set_option maxRecDepth 100000 in
theorem kh_walk {p : Program} {e : Env} {s : State} {m : MethodId} {below : List Frame} {meth : Method} {c : Code} (l : Launch) (hflags : l.flags = flags0) {b L : Nat} {xs : Nat → Int32} (hL : L ≤ 3072) (C0 : lw_At p s m meth c b L xs) (Iv : kh_S → Prop) (hI : ∀ (ρ : kh_S) (o a1 a2 a3 a4 a5 : Int32), Iv ρ → ∃ ρ', kh_step ρ o a1 a2 a3 a4 a5 = some ρ' ∧ Iv ρ') (h0 : Iv kh_0) : W p l e room_1 s m #[Value.ref b] below meth c s.heap [] 0 0 (lw_Z below #[Value.ref b] s) (entryFrame m ([Value.ref b] : List Value).toArray 7) := by
  obtain ⟨hx, hb, hr, hml, hown, hts, hX, hbl, hlocks, hgv⟩ := id C0
  have hlt : l.stackTraces = false := by unfold Launch.stackTraces; rw [hflags]; decide +kernel
  have hA : ∀ q : Nat, s.heap.size ≤ q → (fun q : Nat => s.heap.size ≤ q) q := fun _ h => h
  have hAn : ∀ a : Nat, a < s.heap.size → ¬ (fun q : Nat => s.heap.size ≤ q) a := fun a h => Nat.not_le.mpr h
  obtain ⟨D, ca, hK⟩ := kh_stK hts
  have hAO := kh_stAO hts
  have hN := kh_stNx hgv
  have hT : kh_T (fun q : Nat => s.heap.size ≤ q) s := kh_stT hts hgv hAn
  have hts' : ∀ w ∈ wsL_law, w.before #[Value.ref b] s = true := fun w h => hts w (wsL_law_in w h)
  have C : kh_C p s m #[.ref b] c cL_law 7 RL wsL_law D ca (fun q : Nat => s.heap.size ≤ q) := ⟨hx, hb, hml, hown, hts', hK, hA⟩
  have hS : va_S (fun q : Nat => s.heap.size ≤ q) s.heap s.heap [] := va_S.rf
  have hP : va_P D vwCl [] s.heap := fun k q h => by simp at h
  have hD : va_D (fun q : Nat => s.heap.size ≤ q) [] := ⟨fun i j p q h => by simp at h, fun k q h => by simp at h⟩
  have hl := kh_entry ([.ref b]) (n := 7) (kh_ac rfl kh_an) (Nat.le_of_ble_eq_true rfl)
  rw [lg_entry_eq]
  generalize (lg_sl ([.ref b]) ++ List.replicate (7 - (lg_sl ([.ref b])).length) Slot.unset).toArray = ls at hl ⊢
  have hl : kh_lv ls 7 [(0, .ref b)] := hl
  have hown : s.vm.findClass RL = some m.cls := hown
  refine va_new (ci := 4) (fs := [.null, .int 0, .null, .int 0, .null, .int 0, .null, .int 0, .int 0, .null]) (C := RX4) (T := TX4) (N := 10) (cc := cL_law) hx hb (Ts := u_ws RX4 TX4 10) (fun w h => hK.2.2.1 4 _ rfl w h _) (fun w h => h) tyX4 tyX4_ok hown (hts (.classLink RL 8 RX4) (List.mem_of_getElem? (i := 56) (by decide +kernel))) (hts (.instantiable RX4 10) (List.mem_of_getElem? (i := 57) (by decide +kernel))) (hts (.initialized RX4) (List.mem_of_getElem? (i := 42) (by decide +kernel))) hK.1 hP hD hS hA rfl (fun j hj => by rcases (show j = 0 ∨ j = 1 ∨ j = 2 ∨ j = 3 ∨ j = 4 ∨ j = 5 ∨ j = 6 ∨ j = 7 ∨ j = 8 ∨ j = 9 by omega) with rfl | rfl | rfl | rfl | rfl | rfl | rfl | rfl | rfl | rfl <;> rfl) (Nat.le_of_ble_eq_true rfl) (Nat.le_of_ble_eq_true rfl) dL_law_0 (fun q4 H hP hD hS => ?_)
  have hP : va_P D vwCl [(q4, .inr (4, [.null, .int 0, .null, .int 0, .null, .int 0, .null, .int 0, .int 0, .null]))] H := hP
  have hD : va_D (fun q : Nat => s.heap.size ≤ q) [(q4, .inr (4, [.null, .int 0, .null, .int 0, .null, .int 0, .null, .int 0, .int 0, .null]))] := hD
  refine W.widen (k := 1) (n := 10) (Nat.le_of_ble_eq_true rfl) (Nat.le_of_ble_eq_true rfl) ?_
  refine lv_dup hx hb dL_law_3 rfl ?_
  have hFc := va_free (wc := kh_bX4_init q4) hD hS hA [0] rfl
  refine va_callv (va_runI (As := []) (rest := [.ref q4]) ⟨hx, hb, hml, hown, hts'⟩ (c_X4_init l D ca q4 H.size) (cwI 0 hts' gL_law_X4_init rfl rfl rfl (hts (.initialized RX4) (List.mem_of_getElem? (i := 42) (by decide +kernel))) (hts (.methodLink RL 85 yX4_init) (List.mem_of_getElem? (i := 58) (by decide +kernel))) (hts (.instanceMethod yX4_init) (List.mem_of_getElem? (i := 59) (by decide +kernel))) rfl (by decide +kernel) ⟨Nat.le_of_ble_eq_true rfl, Nat.le_of_ble_eq_true rfl⟩) ⟨kh_blindO, fun U hU hW => ⟨rfl, kh_AO.moved hW hAO, kh_K.moved hW hK, by rw [hU], by rw [hU]; exact hP, hD.weaken (fun _ _ _ _ => trivial)⟩⟩ rfl rfl hl.1.1 rfl (lv_room (Nat.le_of_ble_eq_true rfl)) dL_law_4 ⟨Nat.le_of_ble_eq_true rfl, Nat.le_of_ble_eq_true rfl⟩) hS (fun z _ h => hFc z h) hFc (fun u t H1 locs ht hvm hw hB hz1 hk1 hS => ?_)
  obtain ⟨hP1, hD1⟩ := hB
  rw [ht] at hP1
  obtain ⟨hP, hD⟩ := va_join (wr := []) (w1 := kh_aX4_init ca q4 u) hP hD [0] [] rfl rfl (by decide) (by decide) hk1 hFc hP1 hD1
  generalize H1 = H at hP hS ⊢
  have hP : va_P D vwCl (kh_aX4_init ca q4 u) H := hP
  have hD : va_D (fun q : Nat => s.heap.size ≤ q) (kh_aX4_init ca q4 u) := hD
  refine W.widen (k := 9) (n := 342) (Nat.le_of_ble_eq_true rfl) (Nat.le_of_ble_eq_true rfl) ?_
  refine lv_astore_n hx hb dL_law_7 rfl hl.1 (by decide) rfl (fun ls hl9 => ?_)
  have hl : kh_lv ls 7 [(1, .ref q4), (0, .ref b)] := kh_flt hl rfl hl9 rfl
  refine va_new (ci := 5) (fs := [.int 0, .int 0, .int 0, .int 0, .null, .null, .null, .null, .null, .null, .null, .null, .null, .null, .int 0, .null, .null, .null, .null, .null, .null, .null, .null, .null, .null, .null, .null, .int 0, .null, .null, .null, .null, .null]) (C := RX5) (T := TX5) (N := 33) (cc := cL_law) hx hb (Ts := u_ws RX5 TX5 33) (fun w h => hK.2.2.1 5 _ rfl w h _) (fun w h => h) tyX5 tyX5_ok hown (hts (.classLink RL 86 RX5) (List.mem_of_getElem? (i := 692) (by decide +kernel))) (hts (.instantiable RX5 33) (List.mem_of_getElem? (i := 693) (by decide +kernel))) (hts (.initialized RX5) (List.mem_of_getElem? (i := 44) (by decide +kernel))) hK.1 hP hD hS hA rfl (fun j hj => by rcases (show j = 0 ∨ j = 1 ∨ j = 2 ∨ j = 3 ∨ j = 4 ∨ j = 5 ∨ j = 6 ∨ j = 7 ∨ j = 8 ∨ j = 9 ∨ j = 10 ∨ j = 11 ∨ j = 12 ∨ j = 13 ∨ j = 14 ∨ j = 15 ∨ j = 16 ∨ j = 17 ∨ j = 18 ∨ j = 19 ∨ j = 20 ∨ j = 21 ∨ j = 22 ∨ j = 23 ∨ j = 24 ∨ j = 25 ∨ j = 26 ∨ j = 27 ∨ j = 28 ∨ j = 29 ∨ j = 30 ∨ j = 31 ∨ j = 32 by omega) with rfl | rfl | rfl | rfl | rfl | rfl | rfl | rfl | rfl | rfl | rfl | rfl | rfl | rfl | rfl | rfl | rfl | rfl | rfl | rfl | rfl | rfl | rfl | rfl | rfl | rfl | rfl | rfl | rfl | rfl | rfl | rfl | rfl <;> rfl) (Nat.le_of_ble_eq_true rfl) (Nat.le_of_ble_eq_true rfl) dL_law_8 (fun q5 H hP hD hS => ?_)
  have hP : va_P D vwCl (kh_aX4_init ca q4 u ++ kh_bX5_init q5) H := hP
  have hD : va_D (fun q : Nat => s.heap.size ≤ q) (kh_aX4_init ca q4 u ++ kh_bX5_init q5) := hD
  refine W.widen (k := 10) (n := 375) (Nat.le_of_ble_eq_true rfl) (Nat.le_of_ble_eq_true rfl) ?_
  refine lv_dup hx hb dL_law_11 rfl ?_
  have hPc := hP.sub (ws' := kh_bX5_init q5) [9] rfl
  have hDc := hD.sub (ws' := kh_bX5_init q5) [9] (by decide) rfl
  have hFc := va_free (wc := kh_bX5_init q5) hD hS hA [9] rfl
  refine va_callv (va_runI (As := []) (rest := [.ref q5]) ⟨hx, hb, hml, hown, hts'⟩ (c_X5_init l D ca q5 H.size) (cwI 0 hts' gL_law_X5_init rfl rfl rfl (hts (.initialized RX5) (List.mem_of_getElem? (i := 44) (by decide +kernel))) (hts (.methodLink RL 88 yX5_init) (List.mem_of_getElem? (i := 694) (by decide +kernel))) (hts (.instanceMethod yX5_init) (List.mem_of_getElem? (i := 695) (by decide +kernel))) rfl (by decide +kernel) ⟨Nat.le_of_ble_eq_true rfl, Nat.le_of_ble_eq_true rfl⟩) ⟨kh_blindL, fun U hU hW => ⟨rfl, kh_K.moved hW hK, by rw [hU], by rw [hU]; exact hPc, hDc.weaken (fun _ _ _ _ => trivial)⟩⟩ rfl rfl hl.1.1 rfl (lv_room (Nat.le_of_ble_eq_true rfl)) dL_law_12 ⟨Nat.le_of_ble_eq_true rfl, Nat.le_of_ble_eq_true rfl⟩) hS (fun z _ h => hFc z h) hFc (fun v t H1 locs ht hvm hw hB hz1 hk1 hS => ?_)
  obtain ⟨hP1, hD1⟩ := hB
  rw [ht] at hP1
  obtain ⟨hP, hD⟩ := va_join (wr := kh_aX4_init ca q4 u) (w1 := kh_aX5_init ca q5 v) hP hD [9] [0, 1, 2, 3, 4, 5, 6, 7, 8] rfl rfl (by decide) (by decide) hk1 hFc hP1 hD1
  generalize H1 = H at hP hS ⊢
  refine W.widen (k := 37) (n := 1365) (Nat.le_of_ble_eq_true rfl) (Nat.le_of_ble_eq_true rfl) ?_
  refine lv_astore_n hx hb dL_law_15 rfl hl.1 (by decide) rfl (fun ls hl9 => ?_)
  have hl : kh_lv ls 7 [(2, .ref q5), (1, .ref q4), (0, .ref b)] := kh_flt hl rfl hl9 rfl
  refine lv_iconst (v := (1 : Int32)) hx hb dL_law_16 (by decide) ?_
  refine kh_lnewa (cc := cL_law) hx hb hK 60 (atype := .long) (ty := .long) (N := 1) (a0 := (1, .inr (.inl (fun _ => 0)))) (by decide) rfl rfl (Or.inr (Or.inr rfl)) (hts (.arrayClass .long) (List.mem_of_getElem? (i := 985) (by decide +kernel))) hP hD hS hA (fun _ => rfl) (by decide) (by decide) (by decide +kernel) (Nat.le_of_ble_eq_true rfl) (Nat.le_of_ble_eq_true rfl) dL_law_17 (fun qo H hP hD hS => ?_)
  refine W.widen (k := 38) (n := 1366) (Nat.le_of_ble_eq_true rfl) (Nat.le_of_ble_eq_true rfl) ?_
  refine lv_astore_n hx hb dL_law_19 rfl hl.1 (by decide) rfl (fun ls hl9 => ?_)
  have hl : kh_lv ls 7 [(3, .ref qo), (2, .ref q5), (1, .ref q4), (0, .ref b)] := kh_flt hl rfl hl9 rfl
  refine lv_iconst (v := (0 : Int32)) hx hb dL_law_20 (by decide) ?_
  refine kh_istore (lv' := [(4, .int (0 : Int32)), (3, .ref qo), (2, .ref q5), (1, .ref q4), (0, .ref b)]) hx hb dL_law_21 hl (by decide) rfl (fun ls hl => ?_)
  have hw := kh_w0 ca q4 u q5 v qo hP hD
  refine W.widen (k := 40 + 5 * 0) (n := 1400 + 45 * 0) (Nat.le_of_ble_eq_true rfl) (Nat.le_of_ble_eq_true rfl) ?_
  exact law_loop ⟨C, hlt, hT, hN, hX, hbl, Nat.not_le.mpr hbl⟩ hL hr hlocks (fun q h => h) Iv hI 600 0 (kh_ad0 q4 u q5 v qo) kh_0 H _ ls (by omega) (by omega) h0 hw hS (kh_sub hl [4, 3, 2, 1, 0] rfl)
