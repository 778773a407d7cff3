/-! calls that only ask: had, canBeLeft, state, group, crew, booking -/
theorem kE1_3 : (kh_E1 = kh_E3) = False := eq_false (by decide)
theorem kE2_3 : (kh_E2 = kh_E3) = False := eq_false (by decide)
theorem kE2_1 : (kh_E2 = kh_E1) = False := eq_false (by decide)
theorem kx_l {α : Type} {E : String} {ρ : kh_S} {g : String → Option Int32} {f : α → Option (Int32 × kh_S)} : kh_hx (some (.inl (E, ρ))) g f = (g E).map fun k => (k, ρ) := rfl
theorem kx_r {α : Type} {a : α} {g : String → Option Int32} {f : α → Option (Int32 × kh_S)} : kh_hx (some (.inr a)) g f = f a := rfl
theorem kpt_l {ρ : kh_S} {E : String} : kh_pt (some (.inl E)) ρ = some (.inl (E, ρ)) := rfl
theorem kpt_r {ρ : kh_S} {x : Int32} : kh_pt (some (.inr x)) ρ = some (.inr (x, ρ)) := rfl
theorem one_ne : ¬ (1 : Int32) = 0 := by decide
theorem wh_cases (x : Int32) (n : Nat) (hn : n < 2 ^ 30) : ((x < 0 ∨ nI n - 1 < x) ∧ ∀ j, j < n → ¬ x = nI j) ∨ ∃ j : Nat, j < n ∧ x = nI j := by
  rcases ix_cases x n (by omega) with h | h
  · refine Or.inl ⟨?_, fun j hj e => ?_⟩
    · rw [in_hi hn]; exact h
    · subst e
      exact no_ix hj (by omega) h
  · exact Or.inr h
theorem wh_in {n j : Nat} (hn : n < 2 ^ 30) (h : j < n) : ¬ (nI j < 0 ∨ nI n - 1 < nI j) := by
  rw [in_hi hn]; exact no_ix h (by omega)
section ASK
variable {σ : kh_S} {R G B : Nat} {P : Nat → Nat}
theorem q_had (gg : good σ R G B P) (a1 a2 : Int32) : stepOK (fun ρ => f_L_had ρ a1 a2) (fun τ => f_X5_had τ a1 a2) σ R G B P := by
  have g := gg.1
  have h4 := g.R4
  rcases ix_cases a1 R (by omega) with h | ⟨r, hr, rfl⟩
  · refine stepE gg 1 0 (by decide) (fun ρ q => ?_) (fun τ gt _ => ?_)
    · show f_L_had ρ a1 a2 = _
      unfold f_L_had f_X4_had
      rw [c_rn0 q h, kp_bxl, kpt_l, kx_l, if_pos rfl]
      rfl
    · show f_X5_had τ a1 a2 = _
      unfold f_X5_had f_X5_had_L29 f_X5_had_L45
      rw [m_isRoom gt, if_pos h, kp_bd, if_pos rfl, m_ref1, kp_bd2, if_neg one_ne]
  by_cases h2 : a2 < 0 ∨ 4095 < a2
  · refine stepE gg 2 0 (by decide) (fun ρ q => ?_) (fun τ gt _ => ?_)
    · show f_L_had ρ (nI r) a2 = _
      unfold f_L_had f_X4_had
      rw [c_rn1 q g hr, kp_bxr, c_areThings, if_pos h2, kp_bd, if_pos rfl, kpt_l, kx_l]
      simp only [kE1_3, if_false, if_true]
      rfl
    · show f_X5_had τ (nI r) a2 = _
      unfold f_X5_had f_X5_had_L29 f_X5_had_L45
      rw [m_isRoom gt, if_neg (no_ix hr (by omega)), kp_bd, if_neg one_ne, m_in, if_pos h2, kp_bd, if_pos rfl, m_ref2, kp_bd2, if_neg one_ne]
  · refine stepQ gg (rch (wk σ r) (rnd σ r) (rgv σ r) (P r) a2) (fun ρ q => ?_) (fun τ gt e => ?_)
    · show f_L_had ρ (nI r) a2 = _
      unfold f_L_had f_X4_had
      rw [c_rn1 q g hr, kp_bxr, c_areThings, if_neg h2, kp_bd, if_neg one_ne, kp_gdT (q.i6 g hr), nI_clamp (by omega), c_wk q g hr, kp_bd, c_reachW q g hr, kp_bd, kpt_r, kx_r]
    · show f_X5_had τ (nI r) a2 = _
      unfold f_X5_had f_X5_had_L29 f_X5_had_L45
      rw [m_isRoom gt, if_neg (no_ix hr (by omega)), kp_bd, if_neg one_ne, m_in, if_neg h2, kp_bd, if_neg one_ne, m_ref0, kp_bd2, if_pos rfl, m_hadOf (eqv_good0 (eqv_thr τ 0) gt) hr, kp_bd]
      obtain ⟨e15, -, -, -, -, -, -, e30, e31, e32, -⟩ := kM_all e
      have w : wk (kh_up τ 15 0 0 0 0) r = wk σ r := by funext k; simp [wk, rpr, kh_up, e15, e32]
      have w1 : rnd (kh_up τ 15 0 0 0 0) r = rnd σ r := by funext k; simp [rnd, kh_up, e30]
      have w2 : rgv (kh_up τ 15 0 0 0 0) r = rgv σ r := by funext k; simp [rgv, kh_up, e31]
      rw [w, w1, w2]
def stepB (FL FM : kh_S → Option (Int32 × kh_S)) (σ : kh_S) (R G B : Nat) (P : Nat → Nat) : Prop := ∃ (k b : Int32) (σ' : kh_S) (R' G' B' : Nat) (P' : Nat → Nat), good σ' R' G' B' P' ∧ (∀ ρ, relC ρ σ R G B P → ∃ ρ', FL ρ = some (k, ρ') ∧ relC ρ' σ' R' G' B' P' ∧ frC ρ ρ' ∧ (k = 0 → ρ' 60 0 0 0 = if b = 0 then 0 else 1)) ∧ ∀ τ, kM τ σ → ∃ τ', FM τ = some (b, τ') ∧ kM τ' σ' ∧ frM τ τ' ∧ τ' 15 0 0 0 = k
theorem q_canBeLeft (gg : good σ R G B P) (a1 : Int32) : stepB (fun ρ => f_L_canBeLeft ρ a1) (fun τ => f_X5_canBeLeft τ a1) σ R G B P := by
  have g := gg.1
  have h4 := g.R4
  rcases ix_cases a1 R (by omega) with h | ⟨r, hr, rfl⟩
  · refine ⟨1, 0, kh_up σ 15 0 0 0 1, R, G, B, P, eqv_good (eqv_thr σ 1) gg, fun ρ q => ⟨ρ, ?_, eqv_relC (eqv_thr σ 1) q, frC_rfl ρ, fun z => absurd z one_ne⟩, fun τ q => ⟨_, ?_, kM_up q 15 0 0 0 rfl, frM_up (frM_rfl τ) (by omega), up_at _ _ _ _ _ _⟩⟩
    · show f_L_canBeLeft ρ a1 = _
      unfold f_L_canBeLeft f_X4_canBeLeft
      rw [c_rn0 q h, kp_bxl, kpt_l, kx_l, if_pos rfl]
      rfl
    · show f_X5_canBeLeft τ a1 = _
      unfold f_X5_canBeLeft f_X5_canBeLeft_L14 f_X5_canBeLeft_L32 f_X5_canBeLeft_L33
      rw [m_isRoom (eqv_good0 (eqv_M q) g), if_pos h, kp_bd, if_pos rfl, m_ref1, kp_bd2, if_neg one_ne, kp_gdT kp_b0]
  · refine ⟨0, if 0 < P r ∧ bt (rch (wk σ r) (rnd σ r) (rgv σ r) (P r) (σ 24 0 0 r)) 0 = true then 1 else 0, kh_up σ 15 0 0 0 0, R, G, B, P, eqv_good (eqv_thr σ 0) gg, fun ρ q => ⟨_, ?_, relC_up60 (eqv_relC (eqv_thr σ 0) q) _ _ _ _, frC_up (frC_rfl ρ) (by omega), fun _ => up_at _ _ _ _ _ _⟩, fun τ q => ⟨_, ?_, kM_up q 15 0 0 0 rfl, frM_up (frM_rfl τ) (by omega), up_at _ _ _ _ _ _⟩⟩
    · show f_L_canBeLeft ρ (nI r) = _
      unfold f_L_canBeLeft f_X4_canBeLeft
      rw [c_rn1 q g hr, kp_bxr, c_hasExit q g hr, kp_bd, kp_gdT kp_bi, kpt_r, kx_r]
      rfl
    · show f_X5_canBeLeft τ (nI r) = _
      have gt := eqv_good0 (eqv_M q) g
      unfold f_X5_canBeLeft f_X5_canBeLeft_L14 f_X5_canBeLeft_L32 f_X5_canBeLeft_L33
      rw [m_isRoom gt, if_neg (no_ix hr (by omega)), kp_bd, if_neg one_ne, m_ref0, kp_bd2, if_pos rfl, m_isLeavable (eqv_good0 (eqv_thr τ 0) gt) hr, kp_bd]
      obtain ⟨e15, e24, -, -, -, -, -, e30, e31, e32, -⟩ := kM_all q
      have w : wk (kh_up τ 15 0 0 0 0) r = wk σ r := by funext k; simp [wk, rpr, kh_up, e15, e32]
      have w1 : rnd (kh_up τ 15 0 0 0 0) r = rnd σ r := by funext k; simp [rnd, kh_up, e30]
      have w2 : rgv (kh_up τ 15 0 0 0 0) r = rgv σ r := by funext k; simp [rgv, kh_up, e31]
      have w3 : kh_up τ 15 0 0 0 0 24 0 0 r = σ 24 0 0 r := by simp [kh_up, e24]
      rw [w, w1, w2, w3]
      split
      · rw [if_neg one_ne, kp_gdT kp_b1]
      · rw [if_pos rfl, kp_gdT kp_b0]
theorem q_crew (gg : good σ R G B P) (a1 a2 : Int32) : stepOK (fun ρ => f_L_crew ρ a1 a2) (fun τ => f_X5_crew τ a1 a2) σ R G B P := by
  have g := gg.1
  have h4 := g.R4
  rcases ix_cases a1 3 (by omega) with h | ⟨i, hi, rfl⟩
  · refine stepE gg 1 0 (by decide) (fun ρ q => ?_) (fun τ gt _ => ?_)
    · show f_L_crew ρ a1 a2 = _
      unfold f_L_crew f_X4_crew
      rw [c_wn0 h, kp_bxl, kpt_l, kx_l, if_pos rfl]
      rfl
    · show f_X5_crew τ a1 a2 = _
      unfold f_X5_crew f_X5_crew_L26 f_X5_crew_L81
      rw [m_isCrew, if_pos h, kp_bd, if_pos rfl, m_ref1, kp_bd2, if_neg one_ne]
  rcases wh_cases a2 3 (by omega) with ⟨h2, h3⟩ | ⟨j, hj, rfl⟩
  · refine stepE gg 2 0 (by decide) (fun ρ q => ?_) (fun τ gt _ => ?_)
    · show f_L_crew ρ (nI i) a2 = _
      unfold f_L_crew f_X4_crew
      rw [c_wn1 q hi, kp_bxr, if_neg (show ¬ a2 = 0 from h3 0 (by omega)), if_neg (show ¬ a2 = 1 from h3 1 (by omega)), if_neg (show ¬ a2 = 2 from h3 2 (by omega)), kpt_l, kx_l]
      simp only [kE1_3, if_false, if_true]
      rfl
    · show f_X5_crew τ (nI i) a2 = _
      unfold f_X5_crew f_X5_crew_L26 f_X5_crew_L81
      rw [m_isCrew, if_neg (no_ix hi (by omega)), kp_bd, if_neg one_ne, m_in, if_pos (show a2 < 0 ∨ 2 < a2 from h2), kp_bd, if_pos rfl, m_ref2, kp_bd2, if_neg one_ne]
  have key : ∀ (ρ : kh_S), relC ρ σ R G B P → f_X4_crew ρ (nI i) (nI j) = some (.inr (if j = 0 then σ 43 0 0 i else if j = 1 then σ 44 0 0 i else if σ 43 0 0 i = -1 then -1 else σ 45 0 0 i)) := by
    intro ρ q
    obtain ⟨w0, w1, w2, -⟩ := q.w i hi
    unfold f_X4_crew f_X4_crew_L50
    rw [c_wn1 q hi, kp_bxr, nI_clamp (by omega), w0, w1, w2]
    rcases (g.w i hi).2 with ⟨z, -⟩ | ⟨r, hr, z, -⟩
    · rw [z]
      rcases (show j = 0 ∨ j = 1 ∨ j = 2 by omega) with rfl | rfl | rfl
      · simp (decide := true) [kh_gd, relC.i13 (ρ := ρ) hi]
      · simp (decide := true) [kh_gd, relC.i13 (ρ := ρ) hi]
      · simp (decide := true) [kh_gd, relC.i13 (ρ := ρ) hi]
    · rw [z, nI_clamp (by omega), (q.r r hr).1, kp_gdT (q.i6 g hr), if_neg (nI_pos (by omega))]
      rcases (show j = 0 ∨ j = 1 ∨ j = 2 by omega) with rfl | rfl | rfl
      · simp (decide := true) [kh_gd, relC.i13 (ρ := ρ) hi]
      · simp (decide := true) [kh_gd, relC.i13 (ρ := ρ) hi]
      · simp (decide := true) [kh_gd, relC.i13 (ρ := ρ) hi]
  refine stepQ gg (if j = 0 then σ 43 0 0 i else if j = 1 then σ 44 0 0 i else if σ 43 0 0 i = -1 then -1 else σ 45 0 0 i) (fun ρ q => ?_) (fun τ gt e => ?_)
  · show f_L_crew ρ (nI i) (nI j) = _
    unfold f_L_crew
    rw [key ρ q, kpt_r, kx_r]
  · show f_X5_crew τ (nI i) (nI j) = _
    obtain ⟨-, -, -, -, -, -, -, -, -, -, -, -, -, -, -, -, -, -, -, e43, e44, e45, -⟩ := kM_all e
    unfold f_X5_crew f_X5_crew_L26 f_X5_crew_L81
    rw [m_isCrew, if_neg (no_ix hi (by omega)), kp_bd, if_neg one_ne, m_in, if_neg (show ¬ (nI j < 0 ∨ 2 < nI j) from wh_in (n := 3) (by omega) hj), kp_bd, if_neg one_ne, m_ref0, kp_bd2, if_pos rfl, kp_gdT (kp_in hi (by omega)), kp_gdT (kp_in hi (by omega)), kp_gdT (kp_in hi (by omega)), nI_clamp (by omega)]
    simp only [up_k (show 43 ≠ 15 by decide), up_k (show 44 ≠ 15 by decide), up_k (show 45 ≠ 15 by decide), e43, e44, e45]
    rcases (show j = 0 ∨ j = 1 ∨ j = 2 by omega) with rfl | rfl | rfl
    · simp (decide := true)
    · simp (decide := true)
    · by_cases z : σ 43 0 0 i = -1
      · simp (decide := true) [z]
      · simp (decide := true) [z]
theorem q_booking (gg : good σ R G B P) (a1 a2 : Int32) : stepOK (fun ρ => f_L_booking ρ a1 a2) (fun τ => f_X5_booking τ a1 a2) σ R G B P := by
  have g := gg.1
  have h4 := g.R4
  have h30 := g.B30
  rcases ix_cases a1 B (by omega) with h | ⟨i, hi, rfl⟩
  · refine stepE gg 1 0 (by decide) (fun ρ q => ?_) (fun τ gt _ => ?_)
    · show f_L_booking ρ a1 a2 = _
      unfold f_L_booking f_X4_booking
      rw [c_bn0 q h, kp_bxl, kpt_l, kx_l, if_pos rfl]
      rfl
    · show f_X5_booking τ a1 a2 = _
      unfold f_X5_booking f_X5_booking_L27 f_X5_booking_L82
      rw [m_isBooking gt, if_pos h, kp_bd, if_pos rfl, m_ref1, kp_bd2, if_neg one_ne]
  rcases wh_cases a2 4 (by omega) with ⟨h2, h3⟩ | ⟨j, hj, rfl⟩
  · refine stepE gg 2 0 (by decide) (fun ρ q => ?_) (fun τ gt _ => ?_)
    · show f_L_booking ρ (nI i) a2 = _
      unfold f_L_booking f_X4_booking
      rw [c_bn1 q g hi, kp_bxr, if_neg (show ¬ a2 = 0 from h3 0 (by omega)), if_neg (show ¬ a2 = 1 from h3 1 (by omega)), if_neg (show ¬ a2 = 2 from h3 2 (by omega)), if_neg (show ¬ a2 = 3 from h3 3 (by omega)), kpt_l, kx_l]
      simp only [kE1_3, if_false, if_true]
      rfl
    · show f_X5_booking τ (nI i) a2 = _
      unfold f_X5_booking f_X5_booking_L27 f_X5_booking_L82
      rw [m_isBooking gt, if_neg (no_ix hi (by omega)), kp_bd, if_neg one_ne, m_in, if_pos (show a2 < 0 ∨ 3 < a2 from h2), kp_bd, if_pos rfl, m_ref2, kp_bd2, if_neg one_ne]
  refine stepQ gg (if j = 0 then σ 48 0 0 i else if j = 1 then σ 49 0 0 i else if j = 2 then σ 50 0 0 i else σ 51 0 0 i) (fun ρ q => ?_) (fun τ gt e => ?_)
  · show f_L_booking ρ (nI i) (nI j) = _
    obtain ⟨w0, w1, w2, w3⟩ := q.b i hi
    obtain ⟨⟨r, hr, z⟩, -⟩ := g.b i hi
    unfold f_L_booking f_X4_booking
    rw [c_bn1 q g hi, kp_bxr, nI_clamp (by omega), w0, w1, w2, w3, z, nI_clamp (show r < 2 ^ 31 by omega), (q.r r hr).1, kp_gdT (q.i14 g hi), kp_gdT (q.i14 g hi), kp_gdT (q.i14 g hi), kp_gdT (q.i14 g hi), kp_gdT (q.i6 g hr)]
    rcases (show j = 0 ∨ j = 1 ∨ j = 2 ∨ j = 3 by omega) with rfl | rfl | rfl | rfl
    · simp (decide := true) [kpt_r, kx_r]
    · simp (decide := true) [kpt_r, kx_r]
    · simp (decide := true) [kpt_r, kx_r]
    · simp (decide := true) [kpt_r, kx_r]
  · show f_X5_booking τ (nI i) (nI j) = _
    obtain ⟨-, -, -, -, -, -, -, -, -, -, -, -, -, -, -, -, -, -, -, -, -, -, -, e48, e49, e50, e51⟩ := kM_all e
    unfold f_X5_booking f_X5_booking_L27 f_X5_booking_L82
    rw [m_isBooking gt, if_neg (no_ix hi (by omega)), kp_bd, if_neg one_ne, m_in, if_neg (show ¬ (nI j < 0 ∨ 3 < nI j) from wh_in (n := 4) (by omega) hj), kp_bd, if_neg one_ne, m_ref0, kp_bd2, if_pos rfl, kp_gdT (kp_in (show i < 30 by omega) (by omega)), kp_gdT (kp_in (show i < 30 by omega) (by omega)), kp_gdT (kp_in (show i < 30 by omega) (by omega)), kp_gdT (kp_in (show i < 30 by omega) (by omega)), nI_clamp (by omega)]
    simp only [up_k (show 48 ≠ 15 by decide), up_k (show 49 ≠ 15 by decide), up_k (show 50 ≠ 15 by decide), up_k (show 51 ≠ 15 by decide), e48, e49, e50, e51]
    rcases (show j = 0 ∨ j = 1 ∨ j = 2 ∨ j = 3 by omega) with rfl | rfl | rfl | rfl
    · simp (decide := true)
    · simp (decide := true)
    · simp (decide := true)
    · simp (decide := true)
theorem q_state (gg : good σ R G B P) (a1 a2 : Int32) : stepOK (fun ρ => f_L_state ρ a1 a2) (fun τ => f_X5_state τ a1 a2) σ R G B P := by
  have g := gg.1
  have h4 := g.R4
  have h30 := g.G30
  rcases ix_cases a1 R (by omega) with h | ⟨i, hi, rfl⟩
  · refine stepE gg 1 0 (by decide) (fun ρ q => ?_) (fun τ gt _ => ?_)
    · show f_L_state ρ a1 a2 = _
      unfold f_L_state f_X4_state
      rw [c_rn0 q h, kp_bxl, kpt_l, kx_l, if_pos rfl]
      rfl
    · show f_X5_state τ a1 a2 = _
      unfold f_X5_state f_X5_state_L27 f_X5_state_L95
      rw [m_isRoom gt, if_pos h, kp_bd, if_pos rfl, m_ref1, kp_bd2, if_neg one_ne]
  rcases wh_cases a2 5 (by omega) with ⟨h2, h3⟩ | ⟨j, hj, rfl⟩
  · refine stepE gg 2 0 (by decide) (fun ρ q => ?_) (fun τ gt _ => ?_)
    · show f_L_state ρ (nI i) a2 = _
      unfold f_L_state f_X4_state
      rw [c_rn1 q g hi, kp_bxr, if_neg (show ¬ a2 = 0 from h3 0 (by omega)), if_neg (show ¬ a2 = 1 from h3 1 (by omega)), if_neg (show ¬ a2 = 2 from h3 2 (by omega)), if_neg (show ¬ a2 = 3 from h3 3 (by omega)), if_neg (show ¬ a2 = 4 from h3 4 (by omega)), kpt_l, kx_l]
      simp only [kE1_3, if_false, if_true]
      rfl
    · show f_X5_state τ (nI i) a2 = _
      unfold f_X5_state f_X5_state_L27 f_X5_state_L95
      rw [m_isRoom gt, if_neg (no_ix hi (by omega)), kp_bd, if_neg one_ne, m_in, if_pos (show a2 < 0 ∨ 4 < a2 from h2), kp_bd, if_pos rfl, m_ref2, kp_bd2, if_neg one_ne]
  refine stepQ gg (if j = 0 then σ 26 0 0 i else if j = 1 then σ 27 0 0 i else if j = 2 then σ 28 0 0 i else if j = 3 then σ 29 0 0 i else gsum (rtk σ i) (P i)) (fun ρ q => ?_) (fun τ gt e => ?_)
  · show f_L_state ρ (nI i) (nI j) = _
    obtain ⟨-, -, -, w7, w8, w9, w10, w12, -⟩ := q.r i hi
    have hpl : (if ρ 6 12 i 0 < 0 then f_X4_state_L73 ρ (-1) else kh_gd (kh_in (ρ 6 12 i 0) (kh_n ρ 11)) (f_X4_state_L73 ρ (ρ 11 0 ((ρ 6 12 i 0).toNatClampNeg) 0))) = some (.inr (σ 29 0 0 i)) := by
      rw [w12]
      rcases g.p i hi with ⟨-, p, hp, z, -⟩ | ⟨-, z⟩
      · rw [z, if_neg (nI_pos (by omega)), kp_gdT (q.i11 g hp), nI_clamp (by omega), (q.g p hp).1]
        rfl
      · rw [z]; rfl
    unfold f_L_state f_X4_state
    rw [c_rn1 q g hi, kp_bxr, nI_clamp (by omega), hpl, w7, w8, w9, w10, kp_gdT (q.i6 g hi), kp_gdT (q.i6 g hi), kp_gdT (q.i6 g hi), kp_gdT (q.i6 g hi), kp_gdT (q.i6 g hi)]
    rcases (show j = 0 ∨ j = 1 ∨ j = 2 ∨ j = 3 ∨ j = 4 by omega) with rfl | rfl | rfl | rfl | rfl
    · simp (decide := true) [kpt_r, kx_r]
    · simp (decide := true) [kpt_r, kx_r]
    · simp (decide := true) [kpt_r, kx_r]
    · simp (decide := true) [kpt_r, kx_r]
    · simp (decide := true) [kpt_r, kx_r]
  · show f_X5_state τ (nI i) (nI j) = _
    obtain ⟨-, -, -, e26, e27, e28, e29, -, -, -, e33, -⟩ := kM_all e
    unfold f_X5_state f_X5_state_L27 f_X5_state_L95
    have w : rtk (kh_up τ 15 0 0 0 0) i = rtk σ i := by funext k; simp [rtk, kh_up, e33]
    rw [m_isRoom gt, if_neg (no_ix hi (by omega)), kp_bd, if_neg one_ne, m_in, if_neg (show ¬ (nI j < 0 ∨ 4 < nI j) from wh_in (n := 5) (by omega) hj), kp_bd, if_neg one_ne, m_ref0, kp_bd2, if_pos rfl, kp_gdT (kp_in (show i < 4 by omega) (by omega)), kp_gdT (kp_in (show i < 4 by omega) (by omega)), kp_gdT (kp_in (show i < 4 by omega) (by omega)), kp_gdT (kp_in (show i < 4 by omega) (by omega)), m_gapOf (eqv_good0 (eqv_thr τ 0) gt) hi, kp_bd, nI_clamp (by omega), w]
    simp only [up_k (show 26 ≠ 15 by decide), up_k (show 27 ≠ 15 by decide), up_k (show 28 ≠ 15 by decide), up_k (show 29 ≠ 15 by decide), e26, e27, e28, e29]
    rcases (show j = 0 ∨ j = 1 ∨ j = 2 ∨ j = 3 ∨ j = 4 by omega) with rfl | rfl | rfl | rfl | rfl
    · simp (decide := true)
    · simp (decide := true)
    · simp (decide := true)
    · simp (decide := true)
    · simp (decide := true)
/-- how many minutes a group has left -/
def leftm (σ : kh_S) (i : Nat) : Int32 := ((60 : Int32) - σ 40 0 0 i) - (σ 15 1 0 0 - σ 39 0 0 i)
theorem c_minutesLeft {ρ : kh_S} (q : relC ρ σ R G B P) (g : good0 σ R G B P) {i : Nat} (hi : i < G) : f_X1_minutesLeft ρ i (ρ 0 8 0 0) = some (leftm σ i) := by
  obtain ⟨-, -, w2, -, w5, -⟩ := q.g i hi
  unfold f_X1_minutesLeft
  rw [kp_gdT (decide_eq_true (by rw [q.n11 g]; exact hi)), w2, w5, q.1.2.2.2.2.2.2.2]
  rfl
theorem m_left (τ : kh_S) {i : Nat} (hi : i < 30) : f_X5_left τ (nI i) = some (leftm τ i) := by
  unfold f_X5_left
  rw [kp_gdT (kp_in hi (by omega)), nI_clamp (by omega)]
  rfl
theorem q_group (gg : good σ R G B P) (a1 a2 : Int32) : stepOK (fun ρ => f_L_group ρ a1 a2) (fun τ => f_X5_group τ a1 a2) σ R G B P := by
  have g := gg.1
  have h4 := g.R4
  have h30 := g.G30
  rcases ix_cases a1 G (by omega) with h | ⟨i, hi, rfl⟩
  · refine stepE gg 1 0 (by decide) (fun ρ q => ?_) (fun τ gt _ => ?_)
    · show f_L_group ρ a1 a2 = _
      unfold f_L_group f_X4_group
      rw [c_gn0 q h, kp_bxl, kpt_l, kx_l, if_pos rfl]
      rfl
    · show f_X5_group τ a1 a2 = _
      unfold f_X5_group f_X5_group_L27
      rw [m_isGroup gt, if_pos h, kp_bd, if_pos rfl, m_ref1, kp_bd2, if_neg one_ne]
  rcases wh_cases a2 6 (by omega) with ⟨h2, h3⟩ | ⟨j, hj, rfl⟩
  · refine stepE gg 2 0 (by decide) (fun ρ q => ?_) (fun τ gt _ => ?_)
    · show f_L_group ρ (nI i) a2 = _
      unfold f_L_group f_X4_group
      rw [c_gn1 q g hi, kp_bxr, if_neg (show ¬ a2 = 0 from h3 0 (by omega)), if_neg (show ¬ a2 = 1 from h3 1 (by omega)), if_neg (show ¬ a2 = 2 from h3 2 (by omega)), if_neg (show ¬ a2 = 3 from h3 3 (by omega)), if_neg (show ¬ a2 = 4 from h3 4 (by omega)), if_neg (show ¬ a2 = 5 from h3 5 (by omega)), kpt_l, kx_l]
      simp only [kE1_3, if_false, if_true]
      rfl
    · show f_X5_group τ (nI i) a2 = _
      unfold f_X5_group f_X5_group_L27
      rw [m_isGroup gt, if_neg (no_ix hi (by omega)), kp_bd, if_neg one_ne, m_in, if_pos (show a2 < 0 ∨ 5 < a2 from h2), kp_bd, if_pos rfl, m_ref2, kp_bd2, if_neg one_ne]
  refine stepQ gg (if j = 0 then σ 35 0 0 i else if j = 1 then σ 36 0 0 i else if j = 2 then σ 37 0 0 i else if j = 3 then σ 38 0 0 i else if j = 4 then (if σ 35 0 0 i = 0 then leftm σ i else 0) else σ 41 0 0 i) (fun ρ q => ?_) (fun τ gt e => ?_)
  · show f_L_group ρ (nI i) (nI j) = _
    obtain ⟨-, w1, w2, w4, w5, w6, w7, w8, -⟩ := q.g i hi
    obtain ⟨r, hr, z, -⟩ := g.g i hi
    unfold f_L_group f_X4_group f_X4_group_L86
    rw [c_gn1 q g hi, kp_bxr, nI_clamp (show i < 2 ^ 31 by omega), c_minutesLeft q g hi, kp_bd, w1, w4, w6, w7, w8, z, nI_clamp (show r < 2 ^ 31 by omega), (q.r r hr).1, kp_gdT (q.i11 g hi), kp_gdT (q.i11 g hi), kp_gdT (q.i11 g hi), kp_gdT (q.i11 g hi), kp_gdT (q.i11 g hi), kp_gdT (q.i11 g hi), kp_gdT (q.i6 g hr)]
    rcases (show j = 0 ∨ j = 1 ∨ j = 2 ∨ j = 3 ∨ j = 4 ∨ j = 5 by omega) with rfl | rfl | rfl | rfl | rfl | rfl
    · simp (decide := true) [kpt_r, kx_r]
    · simp (decide := true) [kpt_r, kx_r]
    · simp (decide := true) [kpt_r, kx_r]
    · simp (decide := true) [kpt_r, kx_r]
    · by_cases z : σ 35 0 0 i = 0
      · simp (decide := true) [kpt_r, kx_r, z]
      · simp (decide := true) [kpt_r, kx_r, z]
    · simp (decide := true) [kpt_r, kx_r]
  · show f_X5_group τ (nI i) (nI j) = _
    obtain ⟨e15, -, -, -, -, -, -, -, -, -, -, e35, e36, e37, e38, e39, e40, e41, -⟩ := kM_all e
    unfold f_X5_group f_X5_group_L27 f_X5_group_L118
    have w : leftm (kh_up τ 15 0 0 0 0) i = leftm σ i := by simp [leftm, kh_up, e15, e39, e40]
    rw [m_isGroup gt, if_neg (no_ix hi (by omega)), kp_bd, if_neg one_ne, m_in, if_neg (show ¬ (nI j < 0 ∨ 5 < nI j) from wh_in (n := 6) (by omega) hj), kp_bd, if_neg one_ne, m_ref0, kp_bd2, if_pos rfl, kp_gdT (kp_in (show i < 30 by omega) (by omega)), kp_gdT (kp_in (show i < 30 by omega) (by omega)), kp_gdT (kp_in (show i < 30 by omega) (by omega)), kp_gdT (kp_in (show i < 30 by omega) (by omega)), kp_gdT (kp_in (show i < 30 by omega) (by omega)), kp_gdT (kp_in (show i < 30 by omega) (by omega)), m_left _ (show i < 30 by omega), kp_bd, nI_clamp (by omega), w]
    simp only [up_k (show 35 ≠ 15 by decide), up_k (show 36 ≠ 15 by decide), up_k (show 37 ≠ 15 by decide), up_k (show 38 ≠ 15 by decide), up_k (show 41 ≠ 15 by decide), e35, e36, e37, e38, e41]
    rcases (show j = 0 ∨ j = 1 ∨ j = 2 ∨ j = 3 ∨ j = 4 ∨ j = 5 by omega) with rfl | rfl | rfl | rfl | rfl | rfl
    · simp (decide := true)
    · simp (decide := true)
    · simp (decide := true)
    · simp (decide := true)
    · by_cases z : σ 35 0 0 i = 0
      · simp (decide := true) [z]
      · simp (decide := true) [z]
    · simp (decide := true)
end ASK
