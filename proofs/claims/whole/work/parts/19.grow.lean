/-! new rooms, groups and bookings: the world grows -/
def kh_ok (ρ : kh_S) : Prop := ∀ k i : Nat, i < kh_n ρ k → (∀ (s : Nat) (d : Nat × Nat), (kh_ds k)[s]? = some d → d.1 = 1 → ρ k s i 0 < 0 ∨ (ρ k s i 0).toNatClampNeg < kh_n ρ d.2) ∧ ((kh_kd k).1 = 4 → ∀ j : Nat, ρ k 0 i j < 0 ∨ (ρ k 0 i j).toNatClampNeg < kh_n ρ (kh_kd k).2.1)
noncomputable def kh_gp {α : Type} (p : Prop) (x : Option α) : Option α := @ite (Option α) p (Classical.propDecidable p) x none
theorem kh_gp_ok {α : Type} {p : Prop} {x : Option α} {y : α} (h : kh_gp p x = some y) : p ∧ x = some y := by
  unfold kh_gp at h
  by_cases hb : p
  · rw [if_pos hb] at h; exact ⟨hb, h⟩
  · rw [if_neg hb] at h; cases h
theorem kh_gp_pos {α : Type} {p : Prop} {x : Option α} (h : p) : kh_gp p x = x := by unfold kh_gp; rw [if_pos h]
def kh_ag (ad ad2 : Nat → Nat → Nat) (ρ : kh_S) : Prop := ∀ k i : Nat, i < kh_n ρ k → ad2 k i = ad k i
theorem kh_fs_congr2 {ad ad' : Nat → Nat → Nat} {ρ ρ' : kh_S} {k i : Nat} (h : ∀ s : Nat, ρ k s i 0 = ρ' k s i 0) : ∀ (ds : List (Nat × Nat)) (s : Nat), (∀ (n : Nat) (d : Nat × Nat), ds[n]? = some d → d.1 = 1 → kh_rc ad d.2 (ρ k (s + n) i 0) = kh_rc ad' d.2 (ρ k (s + n) i 0)) → (∀ (n : Nat) (d : Nat × Nat), ds[n]? = some d → ¬ d.1 = 0 → ¬ d.1 = 1 → ad d.2 i = ad' d.2 i) → kh_fs ad ρ k i s ds = kh_fs ad' ρ' k i s ds
  | [], _, _, _ => rfl
  | d :: t, s, h1, h2 => by
    show kh_dv ad ρ k i s d :: kh_fs ad ρ k i (s + 1) t = kh_dv ad' ρ' k i s d :: kh_fs ad' ρ' k i (s + 1) t
    rw [kh_fs_congr2 h t (s + 1) (fun n d hd => by have := h1 (n + 1) d (by simpa using hd); rw [show s + (n + 1) = s + 1 + n by omega] at this; exact this) (fun n d hd => h2 (n + 1) d (by simpa using hd))]
    congr 1
    by_cases e0 : d.1 = 0
    · simp only [kh_dv, if_pos e0, h s]
    · by_cases e1 : d.1 = 1
      · have := h1 0 d rfl e1
        rw [Nat.add_zero, h s] at this
        simp only [kh_dv, if_neg e0, if_pos e1, this, h s]
      · simp only [kh_dv, if_neg e0, if_neg e1, h2 0 d rfl e0 e1]
theorem kh_ds_in {k n : Nat} {d : Nat × Nat} (h : (kh_ds k)[n]? = some d) : k < 16 ∧ n < 33 := by
  unfold kh_ds at h
  by_cases h0 : k = 0
  · rw [if_pos h0] at h; have := (List.getElem?_eq_some_iff.mp h).1; simp at this; omega
  · rw [if_neg h0] at h
    by_cases h1 : k = 6
    · rw [if_pos h1] at h; have := (List.getElem?_eq_some_iff.mp h).1; simp at this; omega
    · rw [if_neg h1] at h
      by_cases h2 : k = 11
      · rw [if_pos h2] at h; have := (List.getElem?_eq_some_iff.mp h).1; simp at this; omega
      · rw [if_neg h2] at h
        by_cases h3 : k = 13
        · rw [if_pos h3] at h; have := (List.getElem?_eq_some_iff.mp h).1; simp at this; omega
        · rw [if_neg h3] at h
          by_cases h4 : k = 14
          · rw [if_pos h4] at h; have := (List.getElem?_eq_some_iff.mp h).1; simp at this; omega
          · rw [if_neg h4] at h
            by_cases h5 : k = 15
            · rw [if_pos h5] at h; have := (List.getElem?_eq_some_iff.mp h).1; simp at this; omega
            · rw [if_neg h5] at h; simp at h
theorem kh_grow {D : va_G} {ca : Nat → ClassId} {A : Nat → Prop} {ad ad' : Nat → Nat → Nat} {ρ ρ' : kh_S} {H H' : Heap} (KS : List Nat) (n : Nat) (f : Nat → Nat) (hw : kh_w D ca A ad ρ H) (hok : kh_ok ρ)
    (hn : ∀ k ∈ KS, kh_n ρ k = n ∧ kh_n ρ' k = n + 1) (hn' : ∀ k, k ∉ KS → kh_n ρ' k = kh_n ρ k) (hρ : ∀ k i s j : Nat, i < kh_n ρ k → ρ' k s i j = ρ k s i j) (had : ∀ k i : Nat, ad' k i = if k ∈ KS ∧ i = n then f k else ad k i)
    (hold : ∀ k i : Nat, i < kh_n ρ k → H'[ad k i]? = H[ad k i]?) (hnew : ∀ k ∈ KS, (∀ k' i' : Nat, i' < kh_n ρ k' → ad k' i' ≠ f k) ∧ A (f k) ∧ va_at D vwCl (f k, kh_e ca ad' ρ' k n) H') (hinj : ∀ k ∈ KS, ∀ k' ∈ KS, f k = f k' → k = k')
    (hfix : ∀ k, k < 16 → ∀ s, s < 33 → ∀ d, (kh_ds k)[s]? = some d → ¬ d.1 = 0 → ¬ d.1 = 1 → d.2 ∈ KS → k ∈ KS) : kh_w D ca A ad' ρ' H' ∧ kh_ag ad ad' ρ := by
  have hag : kh_ag ad ad' ρ := fun k i hi => by
    rw [had, if_neg]
    intro h
    have := (hn k h.1).1
    omega
  have hrc : ∀ (kt : Nat) (x : Int32), (x < 0 ∨ x.toNatClampNeg < kh_n ρ kt) → kh_rc ad kt x = kh_rc ad' kt x := by
    intro kt x hx
    unfold kh_rc
    by_cases h : x < 0
    · rw [if_pos h, if_pos h]
    · rw [if_neg h, if_neg h, hag kt _ (hx.resolve_left h)]
  have he : ∀ k i : Nat, i < kh_n ρ k → kh_e ca ad' ρ' k i = kh_e ca ad ρ k i := by
    intro k i hi
    have h0 : ∀ s : Nat, ρ k s i 0 = ρ' k s i 0 := fun s => (hρ k i s 0 hi).symm
    have h1 : kh_fs ad ρ k i 0 (kh_ds k) = kh_fs ad' ρ' k i 0 (kh_ds k) := kh_fs_congr2 h0 (kh_ds k) 0 (fun n d hd e1 => by rw [Nat.zero_add]; exact hrc _ _ ((hok k i hi).1 n d hd e1)) (fun m d hd e0 e1 => by
      rw [had, if_neg]
      intro h
      obtain ⟨g1, g2⟩ := kh_ds_in hd
      have h3 := (hn k (hfix k g1 m g2 d hd e0 e1 h.1)).1
      omega)
    have h2 : ρ' k 0 i = ρ k 0 i := funext fun j => hρ k i 0 j hi
    by_cases h4 : (kh_kd k).1 = 4
    · have h5 : (fun j => kh_rc ad' (kh_kd k).2.1 (ρ k 0 i j)) = fun j => kh_rc ad (kh_kd k).2.1 (ρ k 0 i j) := funext fun j => (hrc _ _ ((hok k i hi).2 h4 j)).symm
      simp only [kh_e, h1, h2, h5]
    · simp only [kh_e, h1, h2, if_neg h4]
  have hcase : ∀ k i : Nat, i < kh_n ρ' k → (k ∈ KS ∧ i = n ∧ ad' k i = f k) ∨ (i < kh_n ρ k ∧ ad' k i = ad k i) := by
    intro k i hi
    by_cases h : k ∈ KS ∧ i = n
    · exact Or.inl ⟨h.1, h.2, by rw [had, if_pos h]⟩
    · refine Or.inr ⟨?_, by rw [had, if_neg h]⟩
      by_cases hk : k ∈ KS
      · have h1 := hn k hk
        have h2 : i ≠ n := fun e => h ⟨hk, e⟩
        omega
      · rw [← hn' k hk]; exact hi
  refine ⟨⟨fun k i hi => ?_, fun k i k' i' h1 h2 h3 => ?_⟩, hag⟩
  · rcases hcase k i hi with ⟨hk, rfl, e⟩ | ⟨h1, e⟩
    · rw [e]; exact ⟨(hnew k hk).2.2, (hnew k hk).2.1⟩
    · rw [e, he k i h1]
      exact ⟨(hw.1 k i h1).1.kept (hold k i h1), (hw.1 k i h1).2⟩
  · rcases hcase k i h1 with ⟨hk, e1, e⟩ | ⟨g1, e⟩ <;> rcases hcase k' i' h2 with ⟨hk', e1', e'⟩ | ⟨g1', e'⟩ <;> rw [e, e'] at h3
    · exact ⟨hinj k hk k' hk' h3, e1.trans e1'.symm⟩
    · exact absurd h3.symm ((hnew k hk).1 k' i' g1')
    · exact absurd h3 ((hnew k' hk').1 k i g1)
    · exact hw.2 k i k' i' g1 g1' h3
theorem kh_inc {x : Int32} {N : Nat} (hN : N < 2 ^ 31) (h : kh_in x N = true) : (x + 1).toNatClampNeg = x.toNatClampNeg + 1 := by
  obtain ⟨j, hj, e⟩ := vp_in_of (kh_in_vp h) hN
  rw [e, nI_1, nI_clamp (by omega), nI_clamp (by omega)]
/-- a new room -/
def kh_mkR (ρ : kh_S) (a b : Int32) : kh_S := fun k s i j => if i = kh_n ρ 6 ∧ 6 ≤ k ∧ k ≤ 10 then (if k = 6 then (if s = 0 then a else if s = 1 then b else if s = 7 then 5 else if s = 12 then -1 else 0) else 0) else if k = 61 ∧ s = 0 ∧ i = 0 ∧ j = 0 then ρ 61 0 0 0 + 1 else ρ k s i j
def kh_mkG (ρ : kh_S) (a : Int32) (place : Int32) (arr so he : Int32) : kh_S := fun k s i j => if i = kh_n ρ 11 ∧ 11 ≤ k ∧ k ≤ 12 then (if k = 11 then (if s = 0 then a else if s = 1 then place else if s = 2 then arr else if s = 7 then so else if s = 8 then he else 0) else 0) else if k = 61 ∧ s = 1 ∧ i = 0 ∧ j = 0 then ρ 61 1 0 0 + 1 else ρ k s i j
def kh_mkB (ρ : kh_S) (place begin : Int32) : kh_S := fun k s i j => if i = kh_n ρ 14 ∧ k = 14 then (if s = 0 then place else if s = 1 then begin else if s = 3 then -1 else 0) else if k = 61 ∧ s = 2 ∧ i = 0 ∧ j = 0 then ρ 61 2 0 0 + 1 else ρ k s i j
def kh_adR (ad : Nat → Nat → Nat) (n q a b c d : Nat) : Nat → Nat → Nat := fun k i => if k = 6 then (if i = n then q else ad k i) else if k = 7 then (if i = n then a else ad k i) else if k = 8 then (if i = n then b else ad k i) else if k = 9 then (if i = n then c else ad k i) else if k = 10 then (if i = n then d else ad k i) else ad k i
def kh_adG (ad : Nat → Nat → Nat) (n q a : Nat) : Nat → Nat → Nat := fun k i => if k = 11 then (if i = n then q else ad k i) else if k = 12 then (if i = n then a else ad k i) else ad k i
def kh_adB (ad : Nat → Nat → Nat) (n q : Nat) : Nat → Nat → Nat := fun k i => if k = 14 then (if i = n then q else ad k i) else ad k i
theorem kh_aA {ws : va_W} {q sz x : Nat} {e : va_E} (hws : ws = [(q, e)]) (hx : va_A ws sz x) : x = q ∨ sz ≤ x := by
  rcases hx with ⟨k, e9, hk⟩ | hx
  · subst hws
    have h1 : k < 1 := (List.getElem?_eq_some_iff.mp hk).1
    rw [show k = 0 by omega] at hk
    cases hk
    exact Or.inl rfl
  · exact Or.inr hx
theorem kh_memR {k : Nat} (h : k ∈ ([6, 7, 8, 9, 10] : List Nat)) : k = 6 ∨ k = 7 ∨ k = 8 ∨ k = 9 ∨ k = 10 := by simpa using h
theorem kh_fixR : ∀ k, k < 16 → ∀ s, s < 33 → ∀ d, (kh_ds k)[s]? = some d → ¬ d.1 = 0 → ¬ d.1 = 1 → d.2 ∈ ([6, 7, 8, 9, 10] : List Nat) → k ∈ ([6, 7, 8, 9, 10] : List Nat) := by
  have h : ∀ k, k < 16 → ∀ s, s < 33 → (match (kh_ds k)[s]? with | some d => decide (d.1 = 0) || decide (d.1 = 1) || decide (¬ d.2 ∈ ([6, 7, 8, 9, 10] : List Nat)) || decide (k ∈ ([6, 7, 8, 9, 10] : List Nat)) | none => true) = true := by decide +kernel
  intro k hk s hs d hd h0 h1 h2
  have h9 := h k hk s hs
  rw [hd] at h9
  simp only [Bool.or_eq_true, decide_eq_true_eq] at h9
  rcases h9 with ((h9 | h9) | h9) | h9
  · exact absurd h9 h0
  · exact absurd h9 h1
  · exact absurd h2 h9
  · exact h9
theorem kh_eR6 (ca : Nat → ClassId) (ad : Nat → Nat → Nat) (ρ : kh_S) (a : Int32) (b : Int32) (n q0 q1 q2 q3 q4 : Nat) (hn : n = kh_n ρ 6) : kh_e ca (kh_adR ad n q0 q1 q2 q3 q4) (kh_mkR ρ a b) 6 n = .inr (2, [.int a, .int b, .ref q1, .ref q2, .ref q3, .ref q4, .int 0, .int 5, .int 0, .int 0, .int 0, .int 0, .null]) := by
  subst hn
  simp [kh_e, kh_kd, kh_ds, kh_fs, kh_dv, kh_mkR, kh_adR, kh_rc, va_rf]
theorem kh_eR7 (ca : Nat → ClassId) (ad : Nat → Nat → Nat) (ρ : kh_S) (a : Int32) (b : Int32) (n q0 q1 q2 q3 q4 : Nat) (hn : n = kh_n ρ 6) : kh_e ca (kh_adR ad n q0 q1 q2 q3 q4) (kh_mkR ρ a b) 7 n = .inl (ca 7, 8, .inl (fun _ => 0)) := by
  subst hn
  simp [kh_e, kh_kd, kh_ds, kh_fs, kh_dv, kh_mkR, kh_adR, kh_rc, va_rf]
  funext j
  simp [kh_mkR]
theorem kh_eR8 (ca : Nat → ClassId) (ad : Nat → Nat → Nat) (ρ : kh_S) (a : Int32) (b : Int32) (n q0 q1 q2 q3 q4 : Nat) (hn : n = kh_n ρ 6) : kh_e ca (kh_adR ad n q0 q1 q2 q3 q4) (kh_mkR ρ a b) 8 n = .inl (ca 8, 8, .inl (fun _ => 0)) := by
  subst hn
  simp [kh_e, kh_kd, kh_ds, kh_fs, kh_dv, kh_mkR, kh_adR, kh_rc, va_rf]
  funext j
  simp [kh_mkR]
theorem kh_eR9 (ca : Nat → ClassId) (ad : Nat → Nat → Nat) (ρ : kh_S) (a : Int32) (b : Int32) (n q0 q1 q2 q3 q4 : Nat) (hn : n = kh_n ρ 6) : kh_e ca (kh_adR ad n q0 q1 q2 q3 q4) (kh_mkR ρ a b) 9 n = .inl (ca 9, 8, .inl (fun _ => 0)) := by
  subst hn
  simp [kh_e, kh_kd, kh_ds, kh_fs, kh_dv, kh_mkR, kh_adR, kh_rc, va_rf]
  funext j
  simp [kh_mkR]
theorem kh_eR10 (ca : Nat → ClassId) (ad : Nat → Nat → Nat) (ρ : kh_S) (a : Int32) (b : Int32) (n q0 q1 q2 q3 q4 : Nat) (hn : n = kh_n ρ 6) : kh_e ca (kh_adR ad n q0 q1 q2 q3 q4) (kh_mkR ρ a b) 10 n = .inl (ca 10, 8, .inl (fun _ => 0)) := by
  subst hn
  simp [kh_e, kh_kd, kh_ds, kh_fs, kh_dv, kh_mkR, kh_adR, kh_rc, va_rf]
  funext j
  simp [kh_mkR]
theorem kh_growR {D : va_G} {ca : Nat → ClassId} {A : Nat → Prop} {ad : Nat → Nat → Nat} {ρ : kh_S} {H1 H2 : Heap} {q : Nat} {a : Int32} {b : Int32} {u : Nat × Nat × Nat × Nat} (hw : kh_w D ca A ad ρ H1) (hok : kh_ok ρ) (hx : kh_in (ρ 61 0 0 0) 1000 = true) (hq : ∀ k i : Nat, i < kh_n ρ k → ad k i ≠ q) (hA0 : A q) (hA : ∀ x : Nat, H1.size ≤ x → A x) (hk : ∀ x : Nat, x < H1.size → ¬ va_A (kh_bX2_init q) H1.size x → H2[x]? = H1[x]?) (hP : va_P D vwCl (kh_aX2_init ca q a b u) H2) (hD : va_D (va_A (kh_bX2_init q) H1.size) (kh_aX2_init ca q a b u)) : kh_w D ca A (kh_adR ad (kh_n ρ 6) q u.1 u.2.1 u.2.2.1 u.2.2.2) (kh_mkR ρ a b) H2 ∧ kh_ag ad (kh_adR ad (kh_n ρ 6) q u.1 u.2.1 u.2.2.1 u.2.2.2) ρ := by
  have eg : kh_mkR ρ a b 61 0 0 0 = ρ 61 0 0 0 + 1 := by simp [kh_mkR]
  have eo1 : kh_mkR ρ a b 61 1 0 0 = ρ 61 1 0 0 := by simp [kh_mkR]
  have eo2 : kh_mkR ρ a b 61 2 0 0 = ρ 61 2 0 0 := by simp [kh_mkR]
  have pos : ∀ k ∈ ([6, 7, 8, 9, 10] : List Nat), ∃ e, (kh_aX2_init ca q a b u)[k - 6]? = some ((fun k => if k = 6 then q else if k = 7 then u.1 else if k = 8 then u.2.1 else if k = 9 then u.2.2.1 else u.2.2.2) k, e) := by
    intro k hk
    rcases kh_memR hk with rfl | rfl | rfl | rfl | rfl <;> exact ⟨_, rfl⟩
  have hge : ∀ k ∈ ([6, 7, 8, 9, 10] : List Nat), (fun k => if k = 6 then q else if k = 7 then u.1 else if k = 8 then u.2.1 else if k = 9 then u.2.2.1 else u.2.2.2) k = q ∨ H1.size ≤ (fun k => if k = 6 then q else if k = 7 then u.1 else if k = 8 then u.2.1 else if k = 9 then u.2.2.1 else u.2.2.2) k := fun k hk => by
    obtain ⟨e, he⟩ := pos k hk
    exact kh_aA (ws := kh_bX2_init q) rfl (hD.2 _ _ he)
  refine kh_grow [6, 7, 8, 9, 10] (kh_n ρ 6) (fun k => if k = 6 then q else if k = 7 then u.1 else if k = 8 then u.2.1 else if k = 9 then u.2.2.1 else u.2.2.2) hw hok ?_ ?_ ?_ ?_ ?_ ?_ ?_ kh_fixR
  · intro k hk
    have e9 : (kh_mkR ρ a b 61 0 0 0).toNatClampNeg = kh_n ρ 6 + 1 := by rw [eg]; exact kh_inc (by decide) hx
    rcases kh_memR hk with rfl | rfl | rfl | rfl | rfl <;> exact ⟨rfl, e9⟩
  · intro k hk
    have hr : k < 6 ∨ 10 < k := by
      simp only [List.mem_cons, List.not_mem_nil, or_false, not_or] at hk
      omega
    unfold kh_n
    rcases hr with hr | hr
    · rw [if_pos (show k < 6 by omega), if_pos (show k < 6 by omega)]
    · rw [if_neg (show ¬ k < 6 by omega), if_neg (show ¬ k < 11 by omega), if_neg (show ¬ k < 6 by omega), if_neg (show ¬ k < 11 by omega), eo1, eo2]
  · intro k i s j hi
    have h1 : ¬ (i = kh_n ρ 6 ∧ 6 ≤ k ∧ k ≤ 10) := by
      intro h
      have h9 : k ∈ ([6, 7, 8, 9, 10] : List Nat) := by simp only [List.mem_cons, List.not_mem_nil, or_false]; omega
      have h8 : kh_n ρ k = kh_n ρ 6 := by rcases kh_memR h9 with rfl | rfl | rfl | rfl | rfl <;> rfl
      omega
    have h2 : ¬ (k = 61 ∧ s = 0 ∧ i = 0 ∧ j = 0) := by
      rintro ⟨rfl, -⟩
      exact absurd hi (Nat.not_lt_zero _)
    show (if _ then _ else if _ then _ else _) = _
    rw [if_neg h1, if_neg h2]
  · intro k i
    unfold kh_adR
    by_cases e6 : k = 6
    · subst e6
      by_cases hi : i = kh_n ρ 6
      · subst hi; simp
      · simp [hi]
    by_cases e7 : k = 7
    · subst e7
      by_cases hi : i = kh_n ρ 6
      · subst hi; simp
      · simp [hi]
    by_cases e8 : k = 8
    · subst e8
      by_cases hi : i = kh_n ρ 6
      · subst hi; simp
      · simp [hi]
    by_cases e9 : k = 9
    · subst e9
      by_cases hi : i = kh_n ρ 6
      · subst hi; simp
      · simp [hi]
    by_cases e10 : k = 10
    · subst e10
      by_cases hi : i = kh_n ρ 6
      · subst hi; simp
      · simp [hi]
    simp [e6, e7, e8, e9, e10]
  · intro k i hi
    refine hk _ (hw.1 k i hi).1.lt (fun h => ?_)
    rcases kh_aA (ws := kh_bX2_init q) rfl h with h | h
    · exact hq k i hi h
    · exact absurd (hw.1 k i hi).1.lt (by omega)
  · intro k hk
    refine ⟨fun k2 i2 h2 h3 => ?_, ?_, ?_⟩
    · have h4 := (hw.1 k2 i2 h2).1.lt
      rcases hge k hk with h | h
      · exact hq k2 i2 h2 (h3.trans h)
      · exact absurd (Nat.le_trans h (Nat.le_of_eq h3.symm)) (Nat.not_le_of_lt h4)
    · rcases hge k hk with h | h
      · exact Eq.mpr (congrArg A h) hA0
      · exact hA _ h
    rcases kh_memR hk with rfl | rfl | rfl | rfl | rfl
    · rw [kh_eR6 ca ad ρ a b (kh_n ρ 6) q u.1 u.2.1 u.2.2.1 u.2.2.2 rfl]
      exact hP 0 _ rfl
    · rw [kh_eR7 ca ad ρ a b (kh_n ρ 6) q u.1 u.2.1 u.2.2.1 u.2.2.2 rfl]
      exact hP 1 _ rfl
    · rw [kh_eR8 ca ad ρ a b (kh_n ρ 6) q u.1 u.2.1 u.2.2.1 u.2.2.2 rfl]
      exact hP 2 _ rfl
    · rw [kh_eR9 ca ad ρ a b (kh_n ρ 6) q u.1 u.2.1 u.2.2.1 u.2.2.2 rfl]
      exact hP 3 _ rfl
    · rw [kh_eR10 ca ad ρ a b (kh_n ρ 6) q u.1 u.2.1 u.2.2.1 u.2.2.2 rfl]
      exact hP 4 _ rfl
  · intro k hk k2 hk2 h
    obtain ⟨e, he⟩ := pos k hk
    obtain ⟨e2, he2⟩ := pos k2 hk2
    have h9 := hD.1 _ _ _ _ he he2 h
    have a1 := kh_memR hk
    have a2 := kh_memR hk2
    omega
theorem kh_memG {k : Nat} (h : k ∈ ([11, 12] : List Nat)) : k = 11 ∨ k = 12 := by simpa using h
theorem kh_fixG : ∀ k, k < 16 → ∀ s, s < 33 → ∀ d, (kh_ds k)[s]? = some d → ¬ d.1 = 0 → ¬ d.1 = 1 → d.2 ∈ ([11, 12] : List Nat) → k ∈ ([11, 12] : List Nat) := by
  have h : ∀ k, k < 16 → ∀ s, s < 33 → (match (kh_ds k)[s]? with | some d => decide (d.1 = 0) || decide (d.1 = 1) || decide (¬ d.2 ∈ ([11, 12] : List Nat)) || decide (k ∈ ([11, 12] : List Nat)) | none => true) = true := by decide +kernel
  intro k hk s hs d hd h0 h1 h2
  have h9 := h k hk s hs
  rw [hd] at h9
  simp only [Bool.or_eq_true, decide_eq_true_eq] at h9
  rcases h9 with ((h9 | h9) | h9) | h9
  · exact absurd h9 h0
  · exact absurd h9 h1
  · exact absurd h2 h9
  · exact h9
theorem kh_eG11 (ca : Nat → ClassId) (ad : Nat → Nat → Nat) (ρ : kh_S) (a : Int32) (pl : Int32) (ar : Int32) (so : Int32) (he : Int32) (n q0 q1 : Nat) (hn : n = kh_n ρ 11) : kh_e ca (kh_adG ad n q0 q1) (kh_mkG ρ a pl ar so he) 11 n = .inr (1, [.int a, va_rf (kh_rc ad 6 pl), .int ar, .ref q1, .int 0, .int 0, .int 0, .int so, .int he]) := by
  subst hn
  simp [kh_e, kh_kd, kh_ds, kh_fs, kh_dv, kh_mkG, kh_adG, kh_rc]
theorem kh_eG12 (ca : Nat → ClassId) (ad : Nat → Nat → Nat) (ρ : kh_S) (a : Int32) (pl : Int32) (ar : Int32) (so : Int32) (he : Int32) (n q0 q1 : Nat) (hn : n = kh_n ρ 11) : kh_e ca (kh_adG ad n q0 q1) (kh_mkG ρ a pl ar so he) 12 n = .inl (ca 12, 8, .inl (fun _ => 0)) := by
  subst hn
  simp [kh_e, kh_kd, kh_ds, kh_fs, kh_dv, kh_mkG, kh_adG, kh_rc]
  funext j
  simp [kh_mkG]
theorem kh_growG {D : va_G} {ca : Nat → ClassId} {A : Nat → Prop} {ad : Nat → Nat → Nat} {ρ : kh_S} {H1 H2 : Heap} {q : Nat} {a : Int32} {pl : Int32} {ar : Int32} {so : Int32} {he : Int32} {u : Nat} (hw : kh_w D ca A ad ρ H1) (hok : kh_ok ρ) (hx : kh_in (ρ 61 1 0 0) 1000 = true) (hq : ∀ k i : Nat, i < kh_n ρ k → ad k i ≠ q) (hA0 : A q) (hA : ∀ x : Nat, H1.size ≤ x → A x) (hk : ∀ x : Nat, x < H1.size → ¬ va_A (kh_bX1_init q) H1.size x → H2[x]? = H1[x]?) (hP : va_P D vwCl (kh_aX1_init ca q a (kh_rc ad 6 pl) ar so he u) H2) (hD : va_D (va_A (kh_bX1_init q) H1.size) (kh_aX1_init ca q a (kh_rc ad 6 pl) ar so he u)) : kh_w D ca A (kh_adG ad (kh_n ρ 11) q u) (kh_mkG ρ a pl ar so he) H2 ∧ kh_ag ad (kh_adG ad (kh_n ρ 11) q u) ρ := by
  have eg : kh_mkG ρ a pl ar so he 61 1 0 0 = ρ 61 1 0 0 + 1 := by simp [kh_mkG]
  have eo0 : kh_mkG ρ a pl ar so he 61 0 0 0 = ρ 61 0 0 0 := by simp [kh_mkG]
  have eo2 : kh_mkG ρ a pl ar so he 61 2 0 0 = ρ 61 2 0 0 := by simp [kh_mkG]
  have pos : ∀ k ∈ ([11, 12] : List Nat), ∃ e, (kh_aX1_init ca q a (kh_rc ad 6 pl) ar so he u)[k - 11]? = some ((fun k => if k = 11 then q else u) k, e) := by
    intro k hk
    rcases kh_memG hk with rfl | rfl <;> exact ⟨_, rfl⟩
  have hge : ∀ k ∈ ([11, 12] : List Nat), (fun k => if k = 11 then q else u) k = q ∨ H1.size ≤ (fun k => if k = 11 then q else u) k := fun k hk => by
    obtain ⟨e, he⟩ := pos k hk
    exact kh_aA (ws := kh_bX1_init q) rfl (hD.2 _ _ he)
  refine kh_grow [11, 12] (kh_n ρ 11) (fun k => if k = 11 then q else u) hw hok ?_ ?_ ?_ ?_ ?_ ?_ ?_ kh_fixG
  · intro k hk
    have e9 : (kh_mkG ρ a pl ar so he 61 1 0 0).toNatClampNeg = kh_n ρ 11 + 1 := by rw [eg]; exact kh_inc (by decide) hx
    rcases kh_memG hk with rfl | rfl <;> exact ⟨rfl, e9⟩
  · intro k hk
    have hr : k < 11 ∨ 12 < k := by
      simp only [List.mem_cons, List.not_mem_nil, or_false, not_or] at hk
      omega
    unfold kh_n
    rcases hr with hr | hr
    · by_cases h6 : k < 6
      · rw [if_pos h6, if_pos h6]
      · rw [if_neg h6, if_pos (show k < 11 by omega), if_neg h6, if_pos (show k < 11 by omega), eo0]
    · rw [if_neg (show ¬ k < 6 by omega), if_neg (show ¬ k < 11 by omega), if_neg (show ¬ k < 13 by omega), if_neg (show ¬ k < 6 by omega), if_neg (show ¬ k < 11 by omega), if_neg (show ¬ k < 13 by omega), eo2]
  · intro k i s j hi
    have h1 : ¬ (i = kh_n ρ 11 ∧ 11 ≤ k ∧ k ≤ 12) := by
      intro h
      have h9 : k ∈ ([11, 12] : List Nat) := by simp only [List.mem_cons, List.not_mem_nil, or_false]; omega
      have h8 : kh_n ρ k = kh_n ρ 11 := by rcases kh_memG h9 with rfl | rfl <;> rfl
      omega
    have h2 : ¬ (k = 61 ∧ s = 1 ∧ i = 0 ∧ j = 0) := by
      rintro ⟨rfl, -⟩
      exact absurd hi (Nat.not_lt_zero _)
    show (if _ then _ else if _ then _ else _) = _
    rw [if_neg h1, if_neg h2]
  · intro k i
    unfold kh_adG
    by_cases e11 : k = 11
    · subst e11
      by_cases hi : i = kh_n ρ 11
      · subst hi; simp
      · simp [hi]
    by_cases e12 : k = 12
    · subst e12
      by_cases hi : i = kh_n ρ 11
      · subst hi; simp
      · simp [hi]
    simp [e11, e12]
  · intro k i hi
    refine hk _ (hw.1 k i hi).1.lt (fun h => ?_)
    rcases kh_aA (ws := kh_bX1_init q) rfl h with h | h
    · exact hq k i hi h
    · exact absurd (hw.1 k i hi).1.lt (by omega)
  · intro k hk
    refine ⟨fun k2 i2 h2 h3 => ?_, ?_, ?_⟩
    · have h4 := (hw.1 k2 i2 h2).1.lt
      rcases hge k hk with h | h
      · exact hq k2 i2 h2 (h3.trans h)
      · exact absurd (Nat.le_trans h (Nat.le_of_eq h3.symm)) (Nat.not_le_of_lt h4)
    · rcases hge k hk with h | h
      · exact Eq.mpr (congrArg A h) hA0
      · exact hA _ h
    rcases kh_memG hk with rfl | rfl
    · rw [kh_eG11 ca ad ρ a pl ar so he (kh_n ρ 11) q u rfl]
      exact hP 0 _ rfl
    · rw [kh_eG12 ca ad ρ a pl ar so he (kh_n ρ 11) q u rfl]
      exact hP 1 _ rfl
  · intro k hk k2 hk2 h
    obtain ⟨e, he⟩ := pos k hk
    obtain ⟨e2, he2⟩ := pos k2 hk2
    have h9 := hD.1 _ _ _ _ he he2 h
    have a1 := kh_memG hk
    have a2 := kh_memG hk2
    omega
theorem kh_memB {k : Nat} (h : k ∈ ([14] : List Nat)) : k = 14 := by simpa using h
theorem kh_fixB : ∀ k, k < 16 → ∀ s, s < 33 → ∀ d, (kh_ds k)[s]? = some d → ¬ d.1 = 0 → ¬ d.1 = 1 → d.2 ∈ ([14] : List Nat) → k ∈ ([14] : List Nat) := by
  have h : ∀ k, k < 16 → ∀ s, s < 33 → (match (kh_ds k)[s]? with | some d => decide (d.1 = 0) || decide (d.1 = 1) || decide (¬ d.2 ∈ ([14] : List Nat)) || decide (k ∈ ([14] : List Nat)) | none => true) = true := by decide +kernel
  intro k hk s hs d hd h0 h1 h2
  have h9 := h k hk s hs
  rw [hd] at h9
  simp only [Bool.or_eq_true, decide_eq_true_eq] at h9
  rcases h9 with ((h9 | h9) | h9) | h9
  · exact absurd h9 h0
  · exact absurd h9 h1
  · exact absurd h2 h9
  · exact h9
theorem kh_eB14 (ca : Nat → ClassId) (ad : Nat → Nat → Nat) (ρ : kh_S) (pl : Int32) (be : Int32) (n q0 : Nat) (hn : n = kh_n ρ 14) : kh_e ca (kh_adB ad n q0) (kh_mkB ρ pl be) 14 n = .inr (0, [va_rf (kh_rc ad 6 pl), .int be, .int 0, .int (-1)]) := by
  subst hn
  simp [kh_e, kh_kd, kh_ds, kh_fs, kh_dv, kh_mkB, kh_adB, kh_rc]
theorem kh_growB {D : va_G} {ca : Nat → ClassId} {A : Nat → Prop} {ad : Nat → Nat → Nat} {ρ : kh_S} {H1 H2 : Heap} {q : Nat} {pl : Int32} {be : Int32} {u : Unit} (hw : kh_w D ca A ad ρ H1) (hok : kh_ok ρ) (hx : kh_in (ρ 61 2 0 0) 1000 = true) (hq : ∀ k i : Nat, i < kh_n ρ k → ad k i ≠ q) (hA0 : A q) (hA : ∀ x : Nat, H1.size ≤ x → A x) (hk : ∀ x : Nat, x < H1.size → ¬ va_A (kh_bX0_init q) H1.size x → H2[x]? = H1[x]?) (hP : va_P D vwCl (kh_aX0_init ca q (kh_rc ad 6 pl) be u) H2) (hD : va_D (va_A (kh_bX0_init q) H1.size) (kh_aX0_init ca q (kh_rc ad 6 pl) be u)) : kh_w D ca A (kh_adB ad (kh_n ρ 14) q) (kh_mkB ρ pl be) H2 ∧ kh_ag ad (kh_adB ad (kh_n ρ 14) q) ρ := by
  have eg : kh_mkB ρ pl be 61 2 0 0 = ρ 61 2 0 0 + 1 := by simp [kh_mkB]
  have eo0 : kh_mkB ρ pl be 61 0 0 0 = ρ 61 0 0 0 := by simp [kh_mkB]
  have eo1 : kh_mkB ρ pl be 61 1 0 0 = ρ 61 1 0 0 := by simp [kh_mkB]
  have pos : ∀ k ∈ ([14] : List Nat), ∃ e, (kh_aX0_init ca q (kh_rc ad 6 pl) be u)[k - 14]? = some ((fun _ => q) k, e) := by
    intro k hk
    rcases kh_memB hk with rfl <;> exact ⟨_, rfl⟩
  have hge : ∀ k ∈ ([14] : List Nat), (fun _ => q) k = q ∨ H1.size ≤ (fun _ => q) k := fun k hk => by
    obtain ⟨e, he⟩ := pos k hk
    exact kh_aA (ws := kh_bX0_init q) rfl (hD.2 _ _ he)
  refine kh_grow [14] (kh_n ρ 14) (fun _ => q) hw hok ?_ ?_ ?_ ?_ ?_ ?_ ?_ kh_fixB
  · intro k hk
    have e9 : (kh_mkB ρ pl be 61 2 0 0).toNatClampNeg = kh_n ρ 14 + 1 := by rw [eg]; exact kh_inc (by decide) hx
    rcases kh_memB hk with rfl <;> exact ⟨rfl, e9⟩
  · intro k hk
    have hr : k < 14 ∨ 14 < k := by
      simp only [List.mem_cons, List.not_mem_nil, or_false, not_or] at hk
      omega
    unfold kh_n
    rcases hr with hr | hr
    · by_cases h6 : k < 6
      · rw [if_pos h6, if_pos h6]
      · by_cases h11 : k < 11
        · rw [if_neg h6, if_pos h11, if_neg h6, if_pos h11, eo0]
        · by_cases h13 : k < 13
          · rw [if_neg h6, if_neg h11, if_pos h13, if_neg h6, if_neg h11, if_pos h13, eo1]
          · rw [if_neg h6, if_neg h11, if_neg h13, if_pos (show k = 13 by omega), if_neg h6, if_neg h11, if_neg h13, if_pos (show k = 13 by omega)]
    · rw [if_neg (show ¬ k < 6 by omega), if_neg (show ¬ k < 11 by omega), if_neg (show ¬ k < 13 by omega), if_neg (show ¬ k = 13 by omega), if_neg (show ¬ k = 14 by omega), if_neg (show ¬ k < 6 by omega), if_neg (show ¬ k < 11 by omega), if_neg (show ¬ k < 13 by omega), if_neg (show ¬ k = 13 by omega), if_neg (show ¬ k = 14 by omega)]
  · intro k i s j hi
    have h1 : ¬ (i = kh_n ρ 14 ∧ k = 14) := by
      intro h
      have h9 : k ∈ ([14] : List Nat) := by simp only [List.mem_cons, List.not_mem_nil, or_false]; omega
      have h8 : kh_n ρ k = kh_n ρ 14 := by rcases kh_memB h9 with rfl <;> rfl
      omega
    have h2 : ¬ (k = 61 ∧ s = 2 ∧ i = 0 ∧ j = 0) := by
      rintro ⟨rfl, -⟩
      exact absurd hi (Nat.not_lt_zero _)
    show (if _ then _ else if _ then _ else _) = _
    rw [if_neg h1, if_neg h2]
  · intro k i
    unfold kh_adB
    by_cases e14 : k = 14
    · subst e14
      by_cases hi : i = kh_n ρ 14
      · subst hi; simp
      · simp [hi]
    simp [e14]
  · intro k i hi
    refine hk _ (hw.1 k i hi).1.lt (fun h => ?_)
    rcases kh_aA (ws := kh_bX0_init q) rfl h with h | h
    · exact hq k i hi h
    · exact absurd (hw.1 k i hi).1.lt (by omega)
  · intro k hk
    refine ⟨fun k2 i2 h2 h3 => ?_, ?_, ?_⟩
    · have h4 := (hw.1 k2 i2 h2).1.lt
      rcases hge k hk with h | h
      · exact hq k2 i2 h2 (h3.trans h)
      · exact absurd (Nat.le_trans h (Nat.le_of_eq h3.symm)) (Nat.not_le_of_lt h4)
    · rcases hge k hk with h | h
      · exact Eq.mpr (congrArg A h) hA0
      · exact hA _ h
    rcases kh_memB hk with rfl
    · rw [kh_eB14 ca ad ρ pl be (kh_n ρ 14) q rfl]
      exact hP 0 _ rfl
  · intro k hk k2 hk2 h
    obtain ⟨e, he⟩ := pos k hk
    obtain ⟨e2, he2⟩ := pos k2 hk2
    have h9 := hD.1 _ _ _ _ he he2 h
    have a1 := kh_memB hk
    have a2 := kh_memB hk2
    omega

