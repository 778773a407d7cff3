/-! the world at the loop's start -/
def kh_0 : kh_S := fun k _ _ j => if k = 13 then -1 else if k = 1 then -1 else if k = 2 then -1 else if k = 3 then -1 else if k = 4 then (if j = 0 then 0 else if j = 1 then 1 else if j = 2 then 2 else -1) else if k = 43 then (if j < 3 then -1 else 0) else if k = 44 then (if j < 3 then -1 else 0) else 0
def kh_ad0 (q4 : Nat) (u : Nat × Nat × Nat × Nat × Nat × Nat × Nat × Nat) (q5 : Nat) (v : Nat × Nat × Nat × Nat × Nat × Nat × Nat × Nat × Nat × Nat × Nat × Nat × Nat × Nat × Nat × Nat × Nat × Nat × Nat × Nat × Nat × Nat × Nat × Nat × Nat × Nat × Nat) (qo : Nat) : Nat → Nat → Nat := fun k i => if k = 0 ∧ i = 0 then q4 else if k = 1 ∧ i = 0 then u.1 else if k = 2 ∧ i = 0 then u.2.1 else if k = 3 ∧ i = 0 then u.2.2.1 else if k = 4 ∧ i = 0 then u.2.2.2.1 else if k = 5 ∧ i = 0 then u.2.2.2.2.1 else if k = 13 ∧ i = 0 then u.2.2.2.2.2.1 else if k = 13 ∧ i = 1 then u.2.2.2.2.2.2.1 else if k = 13 ∧ i = 2 then u.2.2.2.2.2.2.2 else if k = 15 ∧ i = 0 then q5 else if k = 24 ∧ i = 0 then v.1 else if k = 25 ∧ i = 0 then v.2.1 else if k = 26 ∧ i = 0 then v.2.2.1 else if k = 27 ∧ i = 0 then v.2.2.2.1 else if k = 28 ∧ i = 0 then v.2.2.2.2.1 else if k = 29 ∧ i = 0 then v.2.2.2.2.2.1 else if k = 30 ∧ i = 0 then v.2.2.2.2.2.2.1 else if k = 31 ∧ i = 0 then v.2.2.2.2.2.2.2.1 else if k = 32 ∧ i = 0 then v.2.2.2.2.2.2.2.2.1 else if k = 33 ∧ i = 0 then v.2.2.2.2.2.2.2.2.2.1 else if k = 35 ∧ i = 0 then v.2.2.2.2.2.2.2.2.2.2.1 else if k = 36 ∧ i = 0 then v.2.2.2.2.2.2.2.2.2.2.2.1 else if k = 37 ∧ i = 0 then v.2.2.2.2.2.2.2.2.2.2.2.2.1 else if k = 38 ∧ i = 0 then v.2.2.2.2.2.2.2.2.2.2.2.2.2.1 else if k = 39 ∧ i = 0 then v.2.2.2.2.2.2.2.2.2.2.2.2.2.2.1 else if k = 40 ∧ i = 0 then v.2.2.2.2.2.2.2.2.2.2.2.2.2.2.2.1 else if k = 41 ∧ i = 0 then v.2.2.2.2.2.2.2.2.2.2.2.2.2.2.2.2.1 else if k = 42 ∧ i = 0 then v.2.2.2.2.2.2.2.2.2.2.2.2.2.2.2.2.2.1 else if k = 43 ∧ i = 0 then v.2.2.2.2.2.2.2.2.2.2.2.2.2.2.2.2.2.2.1 else if k = 44 ∧ i = 0 then v.2.2.2.2.2.2.2.2.2.2.2.2.2.2.2.2.2.2.2.1 else if k = 45 ∧ i = 0 then v.2.2.2.2.2.2.2.2.2.2.2.2.2.2.2.2.2.2.2.2.1 else if k = 46 ∧ i = 0 then v.2.2.2.2.2.2.2.2.2.2.2.2.2.2.2.2.2.2.2.2.2.1 else if k = 48 ∧ i = 0 then v.2.2.2.2.2.2.2.2.2.2.2.2.2.2.2.2.2.2.2.2.2.2.1 else if k = 49 ∧ i = 0 then v.2.2.2.2.2.2.2.2.2.2.2.2.2.2.2.2.2.2.2.2.2.2.2.1 else if k = 50 ∧ i = 0 then v.2.2.2.2.2.2.2.2.2.2.2.2.2.2.2.2.2.2.2.2.2.2.2.2.1 else if k = 51 ∧ i = 0 then v.2.2.2.2.2.2.2.2.2.2.2.2.2.2.2.2.2.2.2.2.2.2.2.2.2.1 else if k = 52 ∧ i = 0 then v.2.2.2.2.2.2.2.2.2.2.2.2.2.2.2.2.2.2.2.2.2.2.2.2.2.2 else if k = 60 ∧ i = 0 then qo else 0
abbrev kh_ws0 (ca : Nat → ClassId) (q4 : Nat) (u : Nat × Nat × Nat × Nat × Nat × Nat × Nat × Nat) (q5 : Nat) (v : Nat × Nat × Nat × Nat × Nat × Nat × Nat × Nat × Nat × Nat × Nat × Nat × Nat × Nat × Nat × Nat × Nat × Nat × Nat × Nat × Nat × Nat × Nat × Nat × Nat × Nat × Nat) (qo : Nat) : va_W := (kh_aX4_init ca q4 u ++ kh_aX5_init ca q5 v) ++ [(qo, .inl (ca 60, 1, .inr (.inl (fun _ => 0))))]
def kh_l0 : List (Nat × Nat) := [(0, 0), (1, 0), (2, 0), (3, 0), (4, 0), (5, 0), (13, 0), (13, 1), (13, 2), (15, 0), (24, 0), (25, 0), (26, 0), (27, 0), (28, 0), (29, 0), (30, 0), (31, 0), (32, 0), (33, 0), (35, 0), (36, 0), (37, 0), (38, 0), (39, 0), (40, 0), (41, 0), (42, 0), (43, 0), (44, 0), (45, 0), (46, 0), (48, 0), (49, 0), (50, 0), (51, 0), (52, 0), (60, 0)]
theorem kh_l0n : ∀ k, k < 61 → ∀ i, i < 3 → i < kh_n kh_0 k → (k, i) ∈ kh_l0 := by
  have h : ∀ k, k < 61 → ∀ i, i < 3 → (!decide (i < kh_n kh_0 k) || kh_l0.contains (k, i)) = true := by decide +kernel
  intro k hk i hi hn
  have h1 := h k hk i hi
  rw [decide_eq_true hn] at h1
  exact List.contains_iff_mem.mp h1
theorem kh_n3 : ∀ k, k < 61 → kh_n kh_0 k ≤ 3 := by decide +kernel
theorem kh_l0m {k i : Nat} (h : i < kh_n kh_0 k) : ∃ n : Nat, kh_l0[n]? = some (k, i) := by
  have hk : k < 61 := by
    refine Nat.not_le.mp (fun h1 => ?_)
    unfold kh_n at h
    rw [if_neg (by omega), if_neg (by omega), if_neg (by omega), if_neg (by omega), if_neg (by omega), if_neg (by omega), if_neg (by omega), if_neg (by omega), if_neg (by omega), if_neg (by omega), if_neg (by omega)] at h
    omega
  have h3 := kh_n3 k hk
  exact List.getElem?_of_mem (kh_l0n k hk i (by omega) h)
set_option maxRecDepth 100000 in
set_option maxHeartbeats 4000000 in
theorem kh_w0n (ca : Nat → ClassId) (q4 : Nat) (u : Nat × Nat × Nat × Nat × Nat × Nat × Nat × Nat) (q5 : Nat) (v : Nat × Nat × Nat × Nat × Nat × Nat × Nat × Nat × Nat × Nat × Nat × Nat × Nat × Nat × Nat × Nat × Nat × Nat × Nat × Nat × Nat × Nat × Nat × Nat × Nat × Nat × Nat) (qo : Nat) (n k i : Nat) (h : kh_l0[n]? = some (k, i)) : (kh_ws0 ca q4 u q5 v qo)[n]? = some (kh_ad0 q4 u q5 v qo k i, kh_e ca (kh_ad0 q4 u q5 v qo) kh_0 k i) := by
  match n, h with
  | 0, h => cases h; exact rfl
  | 1, h => cases h; exact congrArg (fun f => some (kh_ad0 q4 u q5 v qo 1 0, (Sum.inl (ca 1, 4, .inr (.inr (.inr (.inr f)))) : va_E))) (funext fun j => by simp [kh_0, kh_rc])
  | 2, h => cases h; exact congrArg (fun f => some (kh_ad0 q4 u q5 v qo 2 0, (Sum.inl (ca 2, 30, .inr (.inr (.inr (.inr f)))) : va_E))) (funext fun j => by simp [kh_0, kh_rc])
  | 3, h => cases h; exact congrArg (fun f => some (kh_ad0 q4 u q5 v qo 3 0, (Sum.inl (ca 3, 30, .inr (.inr (.inr (.inr f)))) : va_E))) (funext fun j => by simp [kh_0, kh_rc])
  | 4, h => cases h; exact congrArg (fun f => some (kh_ad0 q4 u q5 v qo 4 0, (Sum.inl (ca 4, 3, .inr (.inr (.inr (.inr f)))) : va_E))) (funext fun j => by
      show va_up (va_up (va_up (fun _ => none) 0 (some _)) 1 (some _)) 2 (some _) j = kh_rc _ 13 (kh_0 4 0 0 j)
      by_cases j0 : j = 0
      · subst j0; rfl
      by_cases j1 : j = 1
      · subst j1; rfl
      by_cases j2 : j = 2
      · subst j2; rfl
      simp [va_up, kh_0, kh_rc, j0, j1, j2])
  | 5, h => cases h; exact rfl
  | 6, h => cases h; exact rfl
  | 7, h => cases h; exact rfl
  | 8, h => cases h; exact rfl
  | 9, h => cases h; exact rfl
  | 10, h => cases h; exact rfl
  | 11, h => cases h; exact rfl
  | 12, h => cases h; exact rfl
  | 13, h => cases h; exact rfl
  | 14, h => cases h; exact rfl
  | 15, h => cases h; exact rfl
  | 16, h => cases h; exact rfl
  | 17, h => cases h; exact rfl
  | 18, h => cases h; exact rfl
  | 19, h => cases h; exact rfl
  | 20, h => cases h; exact rfl
  | 21, h => cases h; exact rfl
  | 22, h => cases h; exact rfl
  | 23, h => cases h; exact rfl
  | 24, h => cases h; exact rfl
  | 25, h => cases h; exact rfl
  | 26, h => cases h; exact rfl
  | 27, h => cases h; exact rfl
  | 28, h => cases h; exact congrArg (fun f => some (kh_ad0 q4 u q5 v qo 43 0, (Sum.inl (ca 43, 3, .inl f) : va_E))) (funext fun j => by
      show upd (upd (upd (fun _ => 0) 0 (-1 : Int32)) 1 (-1 : Int32)) 2 (-1 : Int32) j = kh_0 43 0 0 j
      by_cases j0 : j = 0
      · subst j0; rfl
      by_cases j1 : j = 1
      · subst j1; rfl
      by_cases j2 : j = 2
      · subst j2; rfl
      simp [upd, kh_0, j0, j1, j2]; omega)
  | 29, h => cases h; exact congrArg (fun f => some (kh_ad0 q4 u q5 v qo 44 0, (Sum.inl (ca 44, 3, .inl f) : va_E))) (funext fun j => by
      show upd (upd (upd (fun _ => 0) 0 (-1 : Int32)) 1 (-1 : Int32)) 2 (-1 : Int32) j = kh_0 44 0 0 j
      by_cases j0 : j = 0
      · subst j0; rfl
      by_cases j1 : j = 1
      · subst j1; rfl
      by_cases j2 : j = 2
      · subst j2; rfl
      simp [upd, kh_0, j0, j1, j2]; omega)
  | 30, h => cases h; exact rfl
  | 31, h => cases h; exact rfl
  | 32, h => cases h; exact rfl
  | 33, h => cases h; exact rfl
  | 34, h => cases h; exact rfl
  | 35, h => cases h; exact rfl
  | 36, h => cases h; exact rfl
  | 37, h => cases h; exact rfl
  | n + 38, h => simp [kh_l0] at h
theorem kh_w0 {D : va_G} {A : Nat → Prop} {H : Heap} (ca : Nat → ClassId) (q4 : Nat) (u : Nat × Nat × Nat × Nat × Nat × Nat × Nat × Nat) (q5 : Nat) (v : Nat × Nat × Nat × Nat × Nat × Nat × Nat × Nat × Nat × Nat × Nat × Nat × Nat × Nat × Nat × Nat × Nat × Nat × Nat × Nat × Nat × Nat × Nat × Nat × Nat × Nat × Nat) (qo : Nat) (hP : va_P D vwCl (kh_ws0 ca q4 u q5 v qo) H) (hD : va_D A (kh_ws0 ca q4 u q5 v qo)) : kh_w D ca A (kh_ad0 q4 u q5 v qo) kh_0 H := by
  refine ⟨fun k i h => ?_, fun k i k' i' h h' e => ?_⟩
  · obtain ⟨n, hn⟩ := kh_l0m h
    have h1 := kh_w0n ca q4 u q5 v qo n k i hn
    exact ⟨hP n _ h1, hD.2 n _ h1⟩
  · obtain ⟨n, hn⟩ := kh_l0m h
    obtain ⟨n', hn'⟩ := kh_l0m h'
    have h9 := hD.1 n n' _ _ (kh_w0n ca q4 u q5 v qo n k i hn) (kh_w0n ca q4 u q5 v qo n' k' i' hn') e
    subst h9
    have := Option.some.inj (hn.symm.trans hn')
    exact Prod.mk.inj this
