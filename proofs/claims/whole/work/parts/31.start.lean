/-! what holds at the law's start -/
theorem kh_stNs {args : Array Value} {s : State} (hts : ∀ w ∈ lw_tbl, w.before args s = true) : kh_Ns s :=
  ⟨va_Nw.of rfl (hts _ (List.mem_of_getElem? (i := 333) (by decide +kernel))), va_Nw.of rfl (hts _ (List.mem_of_getElem? (i := 336) (by decide +kernel))), va_Nw.of rfl (hts _ (List.mem_of_getElem? (i := 345) (by decide +kernel))), va_Nw.of rfl (hts _ (List.mem_of_getElem? (i := 73) (by decide +kernel)))⟩
theorem kh_stAO {args : Array Value} {s : State} (hts : ∀ w ∈ lw_tbl, w.before args s = true) : kh_AO s :=
  ⟨va_AO.of (hts _ (List.mem_of_getElem? (i := 65) (by decide +kernel))), va_AO.of (hts _ (List.mem_of_getElem? (i := 67) (by decide +kernel))), va_AO.of (hts _ (List.mem_of_getElem? (i := 69) (by decide +kernel))), va_AO.of (hts _ (List.mem_of_getElem? (i := 71) (by decide +kernel)))⟩
theorem kh_inc_u {ci : Nat} {q : vw_C} (h : vwCl[ci]? = some q) : ∀ w ∈ u_ws q.1 q.2.1 q.2.2, w ∈ lw_tbl := by
  match ci, h with
  | 0, h => cases h; exact wsL_inX0
  | 1, h => cases h; exact wsL_inX1
  | 2, h => cases h; exact wsL_inX2
  | 3, h => cases h; exact wsL_inX3
  | 4, h => cases h; exact wsL_inX4
  | 5, h => cases h; exact wsL_inX5
  | n + 6, h => simp [vwCl] at h
theorem kh_stL {args : Array Value} {s : State} (hts : ∀ w ∈ lw_tbl, w.before args s = true) : kh_L s := by
  intro ci q hq w hw a
  have h1 := hts w (kh_inc_u hq w hw)
  obtain ⟨k, -, rfl⟩ := List.mem_map.mp hw
  unfold u_lay at h1 ⊢
  split
  · rename_i z
    rw [if_pos z] at h1
    exact va_Nw.use rfl (va_Nw.of rfl h1)
  · rename_i z
    rw [if_neg z] at h1
    exact va_Nw.use rfl (va_Nw.of rfl h1)
theorem kh_stA {args : Array Value} {s : State} {ty : FieldType} (h : (Cond.arrayClass ty).before args s = true) (hty : ∀ C, ty ≠ .object C) : ∃ cA : ClassId, ArrOfT s cA ty ∧ va_RA s cA ty := by
  obtain ⟨cA, kA, comp, h1, h2, h3⟩ := Cond.arrayClass_spec (args := args) (first := s) (o := none) (s := s) (idx := []) h
  refine ⟨cA, fun n z => ⟨fun k h => ?_, kA, h2, comp, h3⟩, ?_⟩
  · cases h
  · cases ty with
    | object C => exact absurd rfl (hty C)
    | _ => exact h1
theorem kh_stQ {s : State} {C : String} (h : va_AO C s) : ∃ cA : ClassId, ArrOfT s cA (.object C) ∧ va_RA s cA (.object C) := by
  obtain ⟨comp, cA, kA, h1, -, h2, h3, h4⟩ := Cond.arrayOver_spec (args := #[]) (first := s) (o := none) (s := s) (idx := []) h
  exact ⟨cA, fun n z => ⟨fun k h => (by cases h), kA, h2, comp, h3⟩, kA, comp, h2, h3, h1, h4⟩
theorem kh_tyC (k : Nat) (hk : (kh_kd k).1 ≠ 0) : kh_ty k = .int ∨ kh_ty k = .boolean ∨ kh_ty k = .long ∨ kh_ty k = .object RX2 ∨ kh_ty k = .object RX1 ∨ kh_ty k = .object RX0 ∨ kh_ty k = .object RX3 := by
  unfold kh_ty
  by_cases h1 : (kh_kd k).1 = 1
  · rw [if_pos h1]; exact Or.inl rfl
  rw [if_neg h1]
  by_cases h2 : (kh_kd k).1 = 2
  · rw [if_pos h2]; exact Or.inr (Or.inl rfl)
  rw [if_neg h2]
  by_cases h3 : (kh_kd k).1 = 3
  · rw [if_pos h3]; exact Or.inr (Or.inr (Or.inl rfl))
  rw [if_neg h3]
  by_cases h4 : k = 1
  · rw [if_pos h4]; exact Or.inr (Or.inr (Or.inr (Or.inl rfl)))
  rw [if_neg h4]
  by_cases h5 : k = 2
  · rw [if_pos h5]; exact Or.inr (Or.inr (Or.inr (Or.inr (Or.inl rfl))))
  rw [if_neg h5]
  by_cases h6 : k = 3
  · rw [if_pos h6]; exact Or.inr (Or.inr (Or.inr (Or.inr (Or.inr (Or.inl rfl)))))
  rw [if_neg h6]
  exact Or.inr (Or.inr (Or.inr (Or.inr (Or.inr (Or.inr rfl)))))
theorem kh_stK {args : Array Value} {s : State} (hts : ∀ w ∈ lw_tbl, w.before args s = true) : ∃ (D : va_G) (ca : Nat → ClassId), kh_K D ca s := by
  have hu : ∀ (ci : Nat) (q : vw_C), vwCl[ci]? = some q → ∃ (cC : ClassId) (iS : Nat → Nat), u_Kn s q.1 q.2.1 q.2.2 cC iS := by
    intro ci q hq
    match ci, hq with
    | 0, hq => cases hq; exact u_known (n := 4) hts wsL_inX0 (hts (.instantiable RX0 4) (List.mem_of_getElem? (i := 590) (by decide +kernel)))
    | 1, hq => cases hq; exact u_known (n := 9) hts wsL_inX1 (hts (.instantiable RX1 9) (List.mem_of_getElem? (i := 428) (by decide +kernel)))
    | 2, hq => cases hq; exact u_known (n := 13) hts wsL_inX2 (hts (.instantiable RX2 13) (List.mem_of_getElem? (i := 222) (by decide +kernel)))
    | 3, hq => cases hq; exact u_known (n := 3) hts wsL_inX3 (hts (.instantiable RX3 3) (List.mem_of_getElem? (i := 72) (by decide +kernel)))
    | 4, hq => cases hq; exact u_known (n := 10) hts wsL_inX4 (hts (.instantiable RX4 10) (List.mem_of_getElem? (i := 57) (by decide +kernel)))
    | 5, hq => cases hq; exact u_known (n := 33) hts wsL_inX5 (hts (.instantiable RX5 33) (List.mem_of_getElem? (i := 693) (by decide +kernel)))
    | n + 6, hq => simp [vwCl] at hq
  have hD : ∃ (dC : Nat → ClassId) (dI : Nat → Nat → Nat), ∀ (ci : Nat) (q : vw_C), vwCl[ci]? = some q → u_Kn s q.1 q.2.1 q.2.2 (dC ci) (dI ci) := by
    have h0 : ∀ ci : Nat, ∃ z : ClassId × (Nat → Nat), ∀ q : vw_C, vwCl[ci]? = some q → u_Kn s q.1 q.2.1 q.2.2 z.1 z.2 := by
      intro ci
      cases hq : vwCl[ci]? with
      | none => exact ⟨(0, fun _ => 0), fun q h => nomatch h⟩
      | some q =>
        obtain ⟨cC, iS, h⟩ := hu ci q hq
        exact ⟨(cC, iS), fun q' h' => by cases h'; exact h⟩
    obtain ⟨z, hz⟩ := Classical.axiomOfChoice h0
    exact ⟨fun ci => (z ci).1, fun ci => (z ci).2, hz⟩
  obtain ⟨dC, dI, hKn⟩ := hD
  have hAO := kh_stAO hts
  have ha : ∀ k : Nat, ∃ cA : ClassId, (kh_kd k).1 ≠ 0 → ArrOfT s cA (kh_ty k) ∧ va_RA s cA (kh_ty k) := by
    intro k
    by_cases hk : (kh_kd k).1 ≠ 0
    · rcases kh_tyC k hk with h | h | h | h | h | h | h <;> rw [h]
      · obtain ⟨cA, h1⟩ := kh_stA (ty := .int) (hts _ (List.mem_of_getElem? (i := 90) (by decide +kernel))) (fun C h => nomatch h); exact ⟨cA, fun _ => h1⟩
      · obtain ⟨cA, h1⟩ := kh_stA (ty := .boolean) (hts _ (List.mem_of_getElem? (i := 798) (by decide +kernel))) (fun C h => nomatch h); exact ⟨cA, fun _ => h1⟩
      · obtain ⟨cA, h1⟩ := kh_stA (ty := .long) (hts _ (List.mem_of_getElem? (i := 985) (by decide +kernel))) (fun C h => nomatch h); exact ⟨cA, fun _ => h1⟩
      · obtain ⟨cA, h1⟩ := kh_stQ hAO.1; exact ⟨cA, fun _ => h1⟩
      · obtain ⟨cA, h1⟩ := kh_stQ hAO.2.1; exact ⟨cA, fun _ => h1⟩
      · obtain ⟨cA, h1⟩ := kh_stQ hAO.2.2.1; exact ⟨cA, fun _ => h1⟩
      · obtain ⟨cA, h1⟩ := kh_stQ hAO.2.2.2; exact ⟨cA, fun _ => h1⟩
    · exact ⟨0, fun h => absurd h hk⟩
  obtain ⟨ca, hca⟩ := Classical.axiomOfChoice ha
  exact ⟨(dC, dI), ca, ⟨hKn, fun k q h => by simp at h⟩, hca, kh_stL hts, kh_stNs hts⟩
theorem kh_stNx {args : Array Value} {s : State} (h : (Jvm.Cond.and given_1 narrow_1).before args s = true) : kh_Nx s :=
  ⟨va_Nc.of (flat_of_before _ h _ (List.mem_of_getElem? (i := 9) (by decide +kernel))), va_Nc.of (flat_of_before _ h _ (List.mem_of_getElem? (i := 25) (by decide +kernel))), va_Nc.of (flat_of_before _ h _ (List.mem_of_getElem? (i := 26) (by decide +kernel)))⟩
theorem kh_stS {args : Array Value} {s : State} {k : Nat} {tx : String} (h1 : (Cond.stringRef RX4 k tx).before args s = true) (h2 : (Cond.exactly (.string RX4 k) "java/lang/String").before args s = true) : ∃ sa : Nat, vk_R RX4 k tx sa s := by
  obtain ⟨a, c, cA, kA, q1, -⟩ := Cond.exactly_spec (args := args) (first := s) (o := none) (s := s) (idx := []) (t := .string RX4 k) (cls := "java/lang/String") h2
  exact ⟨a, vk_R.of h1 q1⟩
set_option maxRecDepth 20000 in
theorem kh_stStr {args : Array Value} {s : State} (hts : ∀ w ∈ lw_tbl, w.before args s = true) (h : (Jvm.Cond.and given_1 narrow_1).before args s = true) : ∀ q ∈ kh_strs, ∃ sa : Nat, vk_R RX4 q.1 q.2 sa s :=
  (List.forall_mem_cons.mpr ⟨kh_stS (hts _ (List.mem_of_getElem? (i := 179) (by decide +kernel))) (flat_of_before _ h _ (List.mem_of_getElem? (i := 30) (by decide +kernel))),
  (List.forall_mem_cons.mpr ⟨kh_stS (hts _ (List.mem_of_getElem? (i := 215) (by decide +kernel))) (flat_of_before _ h _ (List.mem_of_getElem? (i := 54) (by decide +kernel))),
  (List.forall_mem_cons.mpr ⟨kh_stS (hts _ (List.mem_of_getElem? (i := 306) (by decide +kernel))) (flat_of_before _ h _ (List.mem_of_getElem? (i := 91) (by decide +kernel))),
  (List.forall_mem_cons.mpr ⟨kh_stS (hts _ (List.mem_of_getElem? (i := 307) (by decide +kernel))) (flat_of_before _ h _ (List.mem_of_getElem? (i := 120) (by decide +kernel))),
  (List.forall_mem_cons.mpr ⟨kh_stS (hts _ (List.mem_of_getElem? (i := 308) (by decide +kernel))) (flat_of_before _ h _ (List.mem_of_getElem? (i := 167) (by decide +kernel))),
  (List.forall_mem_cons.mpr ⟨kh_stS (hts _ (List.mem_of_getElem? (i := 309) (by decide +kernel))) (flat_of_before _ h _ (List.mem_of_getElem? (i := 190) (by decide +kernel))),
  (List.forall_mem_cons.mpr ⟨kh_stS (hts _ (List.mem_of_getElem? (i := 321) (by decide +kernel))) (flat_of_before _ h _ (List.mem_of_getElem? (i := 233) (by decide +kernel))),
  (List.forall_mem_cons.mpr ⟨kh_stS (hts _ (List.mem_of_getElem? (i := 410) (by decide +kernel))) (flat_of_before _ h _ (List.mem_of_getElem? (i := 253) (by decide +kernel))),
  (List.forall_mem_cons.mpr ⟨kh_stS (hts _ (List.mem_of_getElem? (i := 422) (by decide +kernel))) (flat_of_before _ h _ (List.mem_of_getElem? (i := 297) (by decide +kernel))),
  (List.forall_mem_cons.mpr ⟨kh_stS (hts _ (List.mem_of_getElem? (i := 423) (by decide +kernel))) (flat_of_before _ h _ (List.mem_of_getElem? (i := 322) (by decide +kernel))),
  (List.forall_mem_cons.mpr ⟨kh_stS (hts _ (List.mem_of_getElem? (i := 482) (by decide +kernel))) (flat_of_before _ h _ (List.mem_of_getElem? (i := 363) (by decide +kernel))),
  (List.forall_mem_cons.mpr ⟨kh_stS (hts _ (List.mem_of_getElem? (i := 487) (by decide +kernel))) (flat_of_before _ h _ (List.mem_of_getElem? (i := 381) (by decide +kernel))),
  (List.forall_mem_cons.mpr ⟨kh_stS (hts _ (List.mem_of_getElem? (i := 495) (by decide +kernel))) (flat_of_before _ h _ (List.mem_of_getElem? (i := 431) (by decide +kernel))),
  (List.forall_mem_cons.mpr ⟨kh_stS (hts _ (List.mem_of_getElem? (i := 511) (by decide +kernel))) (flat_of_before _ h _ (List.mem_of_getElem? (i := 458) (by decide +kernel))),
  (List.forall_mem_cons.mpr ⟨kh_stS (hts _ (List.mem_of_getElem? (i := 543) (by decide +kernel))) (flat_of_before _ h _ (List.mem_of_getElem? (i := 505) (by decide +kernel))),
  (List.forall_mem_cons.mpr ⟨kh_stS (hts _ (List.mem_of_getElem? (i := 573) (by decide +kernel))) (flat_of_before _ h _ (List.mem_of_getElem? (i := 557) (by decide +kernel))),
  (List.forall_mem_cons.mpr ⟨kh_stS (hts _ (List.mem_of_getElem? (i := 581) (by decide +kernel))) (flat_of_before _ h _ (List.mem_of_getElem? (i := 591) (by decide +kernel))),
  (List.forall_mem_cons.mpr ⟨kh_stS (hts _ (List.mem_of_getElem? (i := 589) (by decide +kernel))) (flat_of_before _ h _ (List.mem_of_getElem? (i := 647) (by decide +kernel))),
  (List.forall_mem_cons.mpr ⟨kh_stS (hts _ (List.mem_of_getElem? (i := 624) (by decide +kernel))) (flat_of_before _ h _ (List.mem_of_getElem? (i := 692) (by decide +kernel))),
  (List.forall_mem_cons.mpr ⟨kh_stS (hts _ (List.mem_of_getElem? (i := 632) (by decide +kernel))) (flat_of_before _ h _ (List.mem_of_getElem? (i := 719) (by decide +kernel))),
  (List.forall_mem_cons.mpr ⟨kh_stS (hts _ (List.mem_of_getElem? (i := 647) (by decide +kernel))) (flat_of_before _ h _ (List.mem_of_getElem? (i := 744) (by decide +kernel))),
  (List.forall_mem_cons.mpr ⟨kh_stS (hts _ (List.mem_of_getElem? (i := 648) (by decide +kernel))) (flat_of_before _ h _ (List.mem_of_getElem? (i := 768) (by decide +kernel))),
  (List.forall_mem_cons.mpr ⟨kh_stS (hts _ (List.mem_of_getElem? (i := 667) (by decide +kernel))) (flat_of_before _ h _ (List.mem_of_getElem? (i := 802) (by decide +kernel))),
  (List.forall_mem_cons.mpr ⟨kh_stS (hts _ (List.mem_of_getElem? (i := 675) (by decide +kernel))) (flat_of_before _ h _ (List.mem_of_getElem? (i := 820) (by decide +kernel))),
  (List.forall_mem_cons.mpr ⟨kh_stS (hts _ (List.mem_of_getElem? (i := 683) (by decide +kernel))) (flat_of_before _ h _ (List.mem_of_getElem? (i := 838) (by decide +kernel))),
  (List.forall_mem_cons.mpr ⟨kh_stS (hts _ (List.mem_of_getElem? (i := 691) (by decide +kernel))) (flat_of_before _ h _ (List.mem_of_getElem? (i := 856) (by decide +kernel))),
  (List.forall_mem_cons.mpr ⟨kh_stS (hts _ (List.mem_of_getElem? (i := 296) (by decide +kernel))) (flat_of_before _ h _ (List.mem_of_getElem? (i := 75) (by decide +kernel))),
  (List.forall_mem_cons.mpr ⟨kh_stS (hts _ (List.mem_of_getElem? (i := 481) (by decide +kernel))) (flat_of_before _ h _ (List.mem_of_getElem? (i := 346) (by decide +kernel))),
  (List.forall_mem_cons.mpr ⟨kh_stS (hts _ (List.mem_of_getElem? (i := 542) (by decide +kernel))) (flat_of_before _ h _ (List.mem_of_getElem? (i := 482) (by decide +kernel))),
  (List.forall_mem_cons.mpr ⟨kh_stS (hts _ (List.mem_of_getElem? (i := 623) (by decide +kernel))) (flat_of_before _ h _ (List.mem_of_getElem? (i := 673) (by decide +kernel))),
  (fun q hq => absurd hq List.not_mem_nil)⟩)⟩)⟩)⟩)⟩)⟩)⟩)⟩)⟩)⟩)⟩)⟩)⟩)⟩)⟩)⟩)⟩)⟩)⟩)⟩)⟩)⟩)⟩)⟩)⟩)⟩)⟩)⟩)⟩)⟩)
theorem kh_stH {args : Array Value} {s : State} (hts : ∀ w ∈ lw_tbl, w.before args s = true) {E : String} {ic : Nat} (h1 : ∀ w ∈ (vx_atS RX4 ic E kh_nm).filter goodWord, w ∈ lw_tbl) (h2 : Cond.castable E E ∈ lw_tbl) : kh_hat E ic s :=
  ⟨fun w hw a => word_at (State.WarmedH.refl s) (good_of_word (List.mem_filter.mp hw).2) (hts w (h1 w hw)), va_Nw.of rfl (hts _ h2), va_Nw.of rfl (hts _ (List.mem_of_getElem? (i := 142) (by decide +kernel))), va_Nw.of rfl (hts _ (List.mem_of_getElem? (i := 144) (by decide +kernel))), va_Nw.of rfl (hts _ (List.mem_of_getElem? (i := 146) (by decide +kernel)))⟩
theorem kh_stT {args : Array Value} {s : State} {A : Nat → Prop} (hts : ∀ w ∈ lw_tbl, w.before args s = true) (h : (Jvm.Cond.and given_1 narrow_1).before args s = true) (hA : ∀ a : Nat, a < s.heap.size → ¬ A a) : kh_T A s :=
  ⟨vx_Zqof (hts _ (List.mem_of_getElem? (i := 165) (by decide +kernel))) (hts _ (List.mem_of_getElem? (i := 45) (by decide +kernel))) (flat_of_before _ h _ (List.mem_of_getElem? (i := 4) (by decide +kernel))) hA, vx_Zqof (hts _ (List.mem_of_getElem? (i := 167) (by decide +kernel))) (hts _ (List.mem_of_getElem? (i := 45) (by decide +kernel))) (flat_of_before _ h _ (List.mem_of_getElem? (i := 5) (by decide +kernel))) hA, kh_stStr hts h,
   kh_stH hts wsL_law_x0 (List.mem_of_getElem? (i := 140) (by decide +kernel)), kh_stH hts wsL_law_x1 (List.mem_of_getElem? (i := 208) (by decide +kernel)), kh_stH hts wsL_law_x2 (List.mem_of_getElem? (i := 289) (by decide +kernel))⟩
