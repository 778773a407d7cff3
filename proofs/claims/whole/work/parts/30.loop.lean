/-! the law's loop -/
noncomputable def kh_step (ρ : kh_S) (o a1 a2 a3 a4 a5 : Int32) : Option kh_S := if o = (0 : Int32) then s_room ρ a1 else (if o = (1 : Int32) then s_puzzle ρ a1 a2 a3 a4 a5 else (if o = (2 : Int32) then s_prop ρ a1 a2 else (if o = (3 : Int32) then s_had ρ a1 a2 else (if o = (4 : Int32) then s_canBeLeft ρ a1 else (if o = (5 : Int32) then s_orders ρ a1 else (if o = (6 : Int32) then s_ordersAnew ρ a1 else (if o = (7 : Int32) then s_come ρ a1 else (if o = (8 : Int32) then s_solve ρ a1 a2 else (if o = (9 : Int32) then s_hint ρ a1 else (if o = (10 : Int32) then s_giveUp ρ a1 else (if o = (11 : Int32) then s_reset ρ a1 a2 a3 else (if o = (12 : Int32) then s_forget ρ a1 else (if o = (13 : Int32) then s_book ρ a1 a2 else (if o = (14 : Int32) then s_cancel ρ a1 else (if o = (15 : Int32) then s_offer ρ a1 a2 else (if o = (16 : Int32) then s_pass ρ a1 else (if o = (17 : Int32) then s_minute ρ else (if o = (18 : Int32) then s_state ρ a1 a2 else (if o = (19 : Int32) then s_group ρ a1 a2 else (if o = (20 : Int32) then s_crew ρ a1 a2 else (if o = (21 : Int32) then s_booking ρ a1 a2 else some ρ)))))))))))))))))))))
theorem kh_idx {L j t : Nat} (h : 6 * j + t < L) (hL : L ≤ 3072) : kh_in (nI (6 * j) + nI t) L = true ∧ (nI (6 * j) + nI t).toNatClampNeg = 6 * j + t := by
  rw [nI_add]
  have h1 : (nI (6 * j + t)).toNatClampNeg = 6 * j + t := nI_clamp (by omega)
  refine ⟨?_, h1⟩
  simp only [kh_in, Bool.and_eq_true, decide_eq_true_eq]
  exact ⟨nI_pos' (by omega), by rw [h1]; exact h⟩
theorem kh_end {L j : Nat} (hL : L ≤ 3072) (hj : 6 * j ≤ 3072) (h : ¬ (Int32.ofNat L - 6 < nI (6 * j))) : 6 * j + 6 ≤ L := by
  by_cases h6 : 6 ≤ L
  · have e : Int32.ofNat L - 6 = nI (L - 6) := by
      have h1 := nI_add (L - 6) 6
      rw [show L - 6 + 6 = L by omega] at h1
      show nI L - nI 6 = nI (L - 6)
      rw [← h1, Int32.add_sub_cancel]
    rw [e, nI_ltI (by omega) (by omega)] at h
    omega
  · refine absurd ?_ h
    have h2 : ∀ n : Nat, n < 6 → Int32.ofNat n - 6 < 0 := by decide
    exact Int32.lt_of_lt_of_le (h2 L (by omega)) (nI_pos' (by omega))
section KHLP
variable {p : Program} {l : Launch} {e : Env} {s : State} {m : MethodId} {b : Nat} {below : List Frame} {meth : Method} {c : Code} {D : va_G} {ca : Nat → ClassId} {A : Nat → Prop} {L : Nat} {xs : Nat → Int32}
set_option maxHeartbeats 4000000 in
set_option maxRecDepth 100000 in
theorem law_loop (C0 : kh_At p l s m b c D ca A L xs) (hL : L ≤ 3072) (hr : meth.sig.returnType = ret) (hlocks : meth.locks = false) (hAz : ∀ q : Nat, A q → s.heap.size ≤ q) (Iv : kh_S → Prop) (hI : ∀ (ρ : kh_S) (o a1 a2 a3 a4 a5 : Int32), Iv ρ → ∃ ρ', kh_step ρ o a1 a2 a3 a4 a5 = some ρ' ∧ Iv ρ') :
    ∀ (n j : Nat) (ad : Nat → Nat → Nat) (ρ : kh_S) (H : Heap) (locs : List Loc) (ls : Array Slot), L < 6 * (j + n) + 6 → 6 * j ≤ 3072 → Iv ρ → kh_w D ca A ad ρ H → va_S A s.heap H locs → kh_lv ls 7 (kh_ll b ad (nI (6 * j))) → W p l e room_1 s m #[.ref b] below meth c H locs (40 + 5 * j) (1400 + 45 * j) (lw_Z below #[.ref b] s) (F0 m 23 ls []) := by
  have C1 := C0
  obtain ⟨C, hlt, hT, hN, hX, hbl, hbA⟩ := C0
  intro n
  induction n with
  | zero =>
    intro j ad ρ H locs ls hn hj hρ hw hS hl
    refine lv_iload C.1 C.2.1 dL_law_23 (kh_at hl 4 rfl) ?_
    refine lv_aload_n C.1 C.2.1 dL_law_25 rfl (kh_at hl 0 rfl) ?_
    refine va_slen C.1 C.2.1 hX hbl hbA hS dL_law_26 ?_
    refine lv_bipush (v := (6 : Int32)) C.1 C.2.1 dL_law_27 (by decide) ?_
    refine lv_isub C.1 C.2.1 dL_law_29 ?_
    refine lv_icmp_gt (tgt := 1498) C.1 C.2.1 dL_law_30 (by decide) (fun _ => ?_) (fun c9 => ?_)
    · refine lv_iconst (v := (1 : Int32)) C.1 C.2.1 dL_law_1498 (by decide) ?_
      refine va_forget (fun q hq => hAz _ (hS.2.2 q hq)) ?_
      refine W.widen (k := 601024) (n := 7293034) (by omega) (by omega) ?_
      exact lw_ret C.1 C.2.1 hr hlocks dL_law_1499
    · have := kh_end hL hj c9
      omega
  | succ n ih =>
    intro j ad ρ H locs ls hn hj hρ hw hS hl
    refine lv_iload C.1 C.2.1 dL_law_23 (kh_at hl 4 rfl) ?_
    refine lv_aload_n C.1 C.2.1 dL_law_25 rfl (kh_at hl 0 rfl) ?_
    refine va_slen C.1 C.2.1 hX hbl hbA hS dL_law_26 ?_
    refine lv_bipush (v := (6 : Int32)) C.1 C.2.1 dL_law_27 (by decide) ?_
    refine lv_isub C.1 C.2.1 dL_law_29 ?_
    refine lv_icmp_gt (tgt := 1498) C.1 C.2.1 dL_law_30 (by decide) (fun _ => ?_) (fun c9 => ?_)
    · refine lv_iconst (v := (1 : Int32)) C.1 C.2.1 dL_law_1498 (by decide) ?_
      refine va_forget (fun q hq => hAz _ (hS.2.2 q hq)) ?_
      refine W.widen (k := 601024) (n := 7293034) (by omega) (by omega) ?_
      exact lw_ret C.1 C.2.1 hr hlocks dL_law_1499
    have hj6 := kh_end hL hj c9
    have go : ∀ ρ' : kh_S, Iv ρ' → kh_kk p l e s m b below meth c (40 + 5 * j) (1400 + 45 * j) (lw_Z below #[.ref b] s) D ca A ad ρ ρ' (nI (6 * j)) := by
      intro ρ' h' ad2 H locs ls hag hw hS hl
      refine kh_iinc (v := nI (6 * (j + 1))) (lv' := [(4, .int (nI (6 * (j + 1)))), (0, .ref b), (1, .ref (ad2 0 0)), (2, .ref (ad2 15 0)), (3, .ref (ad2 60 0))]) C.1 C.2.1 dL_law_1492 hl (k := 4) rfl (by rw [show 6 * (j + 1) = 6 * j + 6 by omega]; exact nI_add (6 * j) 6) (by decide) rfl (fun ls hl => ?_)
      refine lv_goto (tgt := 23) C.1 C.2.1 dL_law_1495 (by decide) ?_
      refine W.widen (k := 40 + 5 * (j + 1)) (n := 1400 + 45 * (j + 1)) (by omega) (by omega) ?_
      exact ih (j + 1) ad2 ρ' H locs ls (by omega) (by omega) h' hw hS (kh_sub hl [1, 2, 3, 4, 0] rfl)
    refine lv_aload_n C.1 C.2.1 dL_law_33 rfl (kh_at hl 0 rfl) ?_
    refine lv_iload C.1 C.2.1 dL_law_34 (kh_at hl 4 rfl) ?_
    refine va_sld C.1 C.2.1 hX hbl hbA hS (nI_in (by omega) (by omega)) dL_law_36 ?_
    refine lv_bipush (v := (31 : Int32)) C.1 C.2.1 dL_law_37 (by decide) ?_
    refine lv_iand C.1 C.2.1 dL_law_39 ?_
    obtain ⟨ρ', hF, hρ'⟩ := hI ρ ((xs (nI (6 * j)).toNatClampNeg) &&& 31) (xs (6 * j + 1)) (xs (6 * j + 2)) (xs (6 * j + 3)) (xs (6 * j + 4)) (xs (6 * j + 5)) hρ
    have go := go ρ' hρ'
    generalize (xs (nI (6 * j)).toNatClampNeg) &&& 31 = o at hF ⊢
    unfold kh_step at hF
    have x1 := kh_idx (t := 1) (show 6 * j + 1 < L by omega) hL
    have x2 := kh_idx (t := 2) (show 6 * j + 2 < L by omega) hL
    have x3 := kh_idx (t := 3) (show 6 * j + 3 < L by omega) hL
    have x4 := kh_idx (t := 4) (show 6 * j + 4 < L by omega) hL
    have x5 := kh_idx (t := 5) (show 6 * j + 5 < L by omega) hL
    by_cases c0 : o = (0 : Int32)
    · have hF := kh_ift hF c0
      refine kh_swIn (tgt := 144) (off := 104) C.1 C.2.1 dL_law_40 c0 (by decide) (by decide) (by decide +kernel) (by decide) ?_
      exact w_room C1 hw hS hl (by omega) (by omega) x1.1 (congrArg xs x1.2) hF go
    have hF := kh_iff hF c0
    by_cases c1 : o = (1 : Int32)
    · have hF := kh_ift hF c1
      refine kh_swIn (tgt := 200) (off := 160) C.1 C.2.1 dL_law_40 c1 (by decide) (by decide) (by decide +kernel) (by decide) ?_
      exact w_puzzle C1 hw hS hl (by omega) (by omega) x1.1 (congrArg xs x1.2) x2.1 (congrArg xs x2.2) x3.1 (congrArg xs x3.2) x4.1 (congrArg xs x4.2) x5.1 (congrArg xs x5.2) hF go
    have hF := kh_iff hF c1
    by_cases c2 : o = (2 : Int32)
    · have hF := kh_ift hF c2
      refine kh_swIn (tgt := 304) (off := 264) C.1 C.2.1 dL_law_40 c2 (by decide) (by decide) (by decide +kernel) (by decide) ?_
      exact w_prop C1 hw hS hl (by omega) (by omega) x1.1 (congrArg xs x1.2) x2.1 (congrArg xs x2.2) hF go
    have hF := kh_iff hF c2
    by_cases c3 : o = (3 : Int32)
    · have hF := kh_ift hF c3
      refine kh_swIn (tgt := 388) (off := 348) C.1 C.2.1 dL_law_40 c3 (by decide) (by decide) (by decide +kernel) (by decide) ?_
      exact w_had C1 hw hS hl (by omega) (by omega) x1.1 (congrArg xs x1.2) x2.1 (congrArg xs x2.2) hF go
    have hF := kh_iff hF c3
    by_cases c4 : o = (4 : Int32)
    · have hF := kh_ift hF c4
      refine kh_swIn (tgt := 456) (off := 416) C.1 C.2.1 dL_law_40 c4 (by decide) (by decide) (by decide +kernel) (by decide) ?_
      exact w_canBeLeft C1 hw hS hl (by omega) (by omega) x1.1 (congrArg xs x1.2) hF go
    have hF := kh_iff hF c4
    by_cases c5 : o = (5 : Int32)
    · have hF := kh_ift hF c5
      refine kh_swIn (tgt := 519) (off := 479) C.1 C.2.1 dL_law_40 c5 (by decide) (by decide) (by decide +kernel) (by decide) ?_
      exact w_orders C1 hw hS hl (by omega) (by omega) x1.1 (congrArg xs x1.2) hF go
    have hF := kh_iff hF c5
    by_cases c6 : o = (6 : Int32)
    · have hF := kh_ift hF c6
      refine kh_swIn (tgt := 575) (off := 535) C.1 C.2.1 dL_law_40 c6 (by decide) (by decide) (by decide +kernel) (by decide) ?_
      exact w_ordersAnew C1 hw hS hl (by omega) (by omega) x1.1 (congrArg xs x1.2) hF go
    have hF := kh_iff hF c6
    by_cases c7 : o = (7 : Int32)
    · have hF := kh_ift hF c7
      refine kh_swIn (tgt := 631) (off := 591) C.1 C.2.1 dL_law_40 c7 (by decide) (by decide) (by decide +kernel) (by decide) ?_
      exact w_come C1 hw hS hl (by omega) (by omega) x1.1 (congrArg xs x1.2) hF go
    have hF := kh_iff hF c7
    by_cases c8 : o = (8 : Int32)
    · have hF := kh_ift hF c8
      refine kh_swIn (tgt := 687) (off := 647) C.1 C.2.1 dL_law_40 c8 (by decide) (by decide) (by decide +kernel) (by decide) ?_
      exact w_solve C1 hw hS hl (by omega) (by omega) x1.1 (congrArg xs x1.2) x2.1 (congrArg xs x2.2) hF go
    have hF := kh_iff hF c8
    by_cases c9 : o = (9 : Int32)
    · have hF := kh_ift hF c9
      refine kh_swIn (tgt := 755) (off := 715) C.1 C.2.1 dL_law_40 c9 (by decide) (by decide) (by decide +kernel) (by decide) ?_
      exact w_hint C1 hw hS hl (by omega) (by omega) x1.1 (congrArg xs x1.2) hF go
    have hF := kh_iff hF c9
    by_cases c10 : o = (10 : Int32)
    · have hF := kh_ift hF c10
      refine kh_swIn (tgt := 811) (off := 771) C.1 C.2.1 dL_law_40 c10 (by decide) (by decide) (by decide +kernel) (by decide) ?_
      exact w_giveUp C1 hw hS hl (by omega) (by omega) x1.1 (congrArg xs x1.2) hF go
    have hF := kh_iff hF c10
    by_cases c11 : o = (11 : Int32)
    · have hF := kh_ift hF c11
      refine kh_swIn (tgt := 847) (off := 807) C.1 C.2.1 dL_law_40 c11 (by decide) (by decide) (by decide +kernel) (by decide) ?_
      exact w_reset C1 hw hS hl (by omega) (by omega) x1.1 (congrArg xs x1.2) x2.1 (congrArg xs x2.2) x3.1 (congrArg xs x3.2) hF go
    have hF := kh_iff hF c11
    by_cases c12 : o = (12 : Int32)
    · have hF := kh_ift hF c12
      refine kh_swIn (tgt := 923) (off := 883) C.1 C.2.1 dL_law_40 c12 (by decide) (by decide) (by decide +kernel) (by decide) ?_
      exact w_forget C1 hw hS hl (by omega) (by omega) x1.1 (congrArg xs x1.2) hF go
    have hF := kh_iff hF c12
    by_cases c13 : o = (13 : Int32)
    · have hF := kh_ift hF c13
      refine kh_swIn (tgt := 979) (off := 939) C.1 C.2.1 dL_law_40 c13 (by decide) (by decide) (by decide +kernel) (by decide) ?_
      exact w_book C1 hw hS hl (by omega) (by omega) x1.1 (congrArg xs x1.2) x2.1 (congrArg xs x2.2) hF go
    have hF := kh_iff hF c13
    by_cases c14 : o = (14 : Int32)
    · have hF := kh_ift hF c14
      refine kh_swIn (tgt := 1047) (off := 1007) C.1 C.2.1 dL_law_40 c14 (by decide) (by decide) (by decide +kernel) (by decide) ?_
      exact w_cancel C1 hw hS hl (by omega) (by omega) x1.1 (congrArg xs x1.2) hF go
    have hF := kh_iff hF c14
    by_cases c15 : o = (15 : Int32)
    · have hF := kh_ift hF c15
      refine kh_swIn (tgt := 1083) (off := 1043) C.1 C.2.1 dL_law_40 c15 (by decide) (by decide) (by decide +kernel) (by decide) ?_
      exact w_offer C1 hw hS hl (by omega) (by omega) x1.1 (congrArg xs x1.2) x2.1 (congrArg xs x2.2) hF go
    have hF := kh_iff hF c15
    by_cases c16 : o = (16 : Int32)
    · have hF := kh_ift hF c16
      refine kh_swIn (tgt := 1151) (off := 1111) C.1 C.2.1 dL_law_40 c16 (by decide) (by decide) (by decide +kernel) (by decide) ?_
      exact w_pass C1 hw hS hl (by omega) (by omega) x1.1 (congrArg xs x1.2) hF go
    have hF := kh_iff hF c16
    by_cases c17 : o = (17 : Int32)
    · have hF := kh_ift hF c17
      refine kh_swIn (tgt := 1207) (off := 1167) C.1 C.2.1 dL_law_40 c17 (by decide) (by decide) (by decide +kernel) (by decide) ?_
      exact w_minute C1 hw hS hl (by omega) (by omega) hF go
    have hF := kh_iff hF c17
    by_cases c18 : o = (18 : Int32)
    · have hF := kh_ift hF c18
      refine kh_swIn (tgt := 1220) (off := 1180) C.1 C.2.1 dL_law_40 c18 (by decide) (by decide) (by decide +kernel) (by decide) ?_
      exact w_state C1 hw hS hl (by omega) (by omega) x1.1 (congrArg xs x1.2) x2.1 (congrArg xs x2.2) hF go
    have hF := kh_iff hF c18
    by_cases c19 : o = (19 : Int32)
    · have hF := kh_ift hF c19
      refine kh_swIn (tgt := 1288) (off := 1248) C.1 C.2.1 dL_law_40 c19 (by decide) (by decide) (by decide +kernel) (by decide) ?_
      exact w_group C1 hw hS hl (by omega) (by omega) x1.1 (congrArg xs x1.2) x2.1 (congrArg xs x2.2) hF go
    have hF := kh_iff hF c19
    by_cases c20 : o = (20 : Int32)
    · have hF := kh_ift hF c20
      refine kh_swIn (tgt := 1356) (off := 1316) C.1 C.2.1 dL_law_40 c20 (by decide) (by decide) (by decide +kernel) (by decide) ?_
      exact w_crew C1 hw hS hl (by omega) (by omega) x1.1 (congrArg xs x1.2) x2.1 (congrArg xs x2.2) hF go
    have hF := kh_iff hF c20
    by_cases c21 : o = (21 : Int32)
    · have hF := kh_ift hF c21
      refine kh_swIn (tgt := 1424) (off := 1384) C.1 C.2.1 dL_law_40 c21 (by decide) (by decide) (by decide +kernel) (by decide) ?_
      exact w_booking C1 hw hS hl (by omega) (by omega) x1.1 (congrArg xs x1.2) x2.1 (congrArg xs x2.2) hF go
    have hF := kh_iff hF c21
    obtain rfl := Option.some.inj hF
    refine lv_tableOut (tgt := 1492) C.1 C.2.1 dL_law_40 (kh_swO (fun k a9 b9 => by
      rcases (show k = 0 ∨ k = 1 ∨ k = 2 ∨ k = 3 ∨ k = 4 ∨ k = 5 ∨ k = 6 ∨ k = 7 ∨ k = 8 ∨ k = 9 ∨ k = 10 ∨ k = 11 ∨ k = 12 ∨ k = 13 ∨ k = 14 ∨ k = 15 ∨ k = 16 ∨ k = 17 ∨ k = 18 ∨ k = 19 ∨ k = 20 ∨ k = 21 by omega) with rfl | rfl | rfl | rfl | rfl | rfl | rfl | rfl | rfl | rfl | rfl | rfl | rfl | rfl | rfl | rfl | rfl | rfl | rfl | rfl | rfl | rfl
      · exact kh_neT c0 (by decide)
      · exact kh_neT c1 (by decide)
      · exact kh_neT c2 (by decide)
      · exact kh_neT c3 (by decide)
      · exact kh_neT c4 (by decide)
      · exact kh_neT c5 (by decide)
      · exact kh_neT c6 (by decide)
      · exact kh_neT c7 (by decide)
      · exact kh_neT c8 (by decide)
      · exact kh_neT c9 (by decide)
      · exact kh_neT c10 (by decide)
      · exact kh_neT c11 (by decide)
      · exact kh_neT c12 (by decide)
      · exact kh_neT c13 (by decide)
      · exact kh_neT c14 (by decide)
      · exact kh_neT c15 (by decide)
      · exact kh_neT c16 (by decide)
      · exact kh_neT c17 (by decide)
      · exact kh_neT c18 (by decide)
      · exact kh_neT c19 (by decide)
      · exact kh_neT c20 (by decide)
      · exact kh_neT c21 (by decide))) (by decide) ?_
    refine W.widen (k := 40 + 5 * j + 5) (n := 1400 + 45 * j + 45) (by omega) (by omega) ?_
    exact go ad H locs ls (kh_agr ad ρ) hw hS hl
end KHLP
