/-! come: the call -/
section COMES
variable {ρ σ τ : kh_S} {R G B : Nat} {P : Nat → Nat}
theorem c_due_step (q : relC ρ σ R G B P) (g : good0 σ R G B P) {r b : Nat} (hr : r < R) (hb : b < B) : f_X4_bookingDue_B2 ρ (nI r) (nI b) = some (if dueb σ r b = true then .inr (.inl (nI b)) else .inl (nI (b + 1))) := by
  have hB := g.B30
  obtain ⟨b1, b2, b3, b4, b5, b6, b7⟩ := c_bk q g hb
  unfold f_X4_bookingDue_B2 f_X4_bookingDue_L45
  rw [q.1.2.2.2.2.1, if_neg (nI_ge hb (by omega)), kp_gdT b2, b1, kp_gdT b3, nI_clamp (show b < 2 ^ 31 by omega), b4, kp_gdT b7, kp_gdT (q.i6 g hr), b5, b6, q.1.2.2.2.2.2.2.2, nI_1]
  unfold dueb
  by_cases h1 : σ 48 0 0 b = nI r
  · rw [if_pos h1, decide_eq_true h1]
    by_cases h2 : σ 50 0 0 b = 0
    · rw [if_pos h2, decide_eq_true h2]
      by_cases h3 : σ 15 1 0 0 < σ 49 0 0 b
      · rw [if_pos h3, decide_eq_true h3]; rfl
      · rw [if_neg h3, decide_eq_false h3]; rfl
    · rw [if_neg h2, decide_eq_false h2]; rfl
  · rw [if_neg h1, decide_eq_false h1]; rfl
theorem c_due0 (q : relC ρ σ R G B P) (g : good0 σ R G B P) {r : Nat} (hr : r < R) (h : anyb (dueb σ r) B = false) : f_X4_bookingDue ρ (nI r) = some (-1) := by
  have hB := g.B30
  have hl : kh_lp (fun a : Int32 => f_X4_bookingDue_B2 ρ (nI r) a) 9999 (0 : Int32) = some (.inr ()) := kp_lp B (fun j => nI j) (fun j hj => by rw [c_due_step q g hr hj, anyb_no h hj]; rfl) (by
    unfold f_X4_bookingDue_B2
    rw [q.1.2.2.2.2.1, if_pos (nI_le (Nat.le_refl _) (by omega))]) 9999 (by omega)
  unfold f_X4_bookingDue
  rw [hl]
  rfl
theorem c_due1 (q : relC ρ σ R G B P) (g : good0 σ R G B P) {r : Nat} (hr : r < R) {m : Nat} (hm : m < B) (h : dueb σ r m = true) (h2 : ∀ j, j < m → dueb σ r j = false) : f_X4_bookingDue ρ (nI r) = some (nI m) := by
  have hB := g.B30
  have hl : kh_lp (fun a : Int32 => f_X4_bookingDue_B2 ρ (nI r) a) 9999 (0 : Int32) = some (.inl (nI m)) := kp_lp m (fun j => nI j) (fun j hj => by rw [c_due_step q g hr (by omega), h2 j hj]; rfl) (by rw [c_due_step q g hr hm, h]; rfl) 9999 (by omega)
  unfold f_X4_bookingDue
  rw [hl]
  rfl
theorem m_due_step (g : good0 τ R G B P) {r b : Nat} (hb : b < B) : f_X5_bookingFor_B2 τ (nI r) (nI b) = some (if dueb τ r b = true then .inr (.inl (nI b)) else .inl (nI (b + 1))) := by
  have hB := g.B30
  unfold f_X5_bookingFor_B2 f_X5_bookingFor_L44
  rw [g.1.2.2.2.2.1, if_neg (nI_ge hb (by omega)), kp_gdT (kp_in (show b < 30 by omega) (by omega)), nI_clamp (show b < 2 ^ 31 by omega), nI_1]
  unfold dueb
  by_cases h1 : τ 48 0 0 b = nI r
  · rw [if_pos h1, decide_eq_true h1]
    by_cases h2 : τ 50 0 0 b = 0
    · rw [if_pos h2, decide_eq_true h2]
      by_cases h3 : τ 15 1 0 0 < τ 49 0 0 b
      · rw [if_pos h3, decide_eq_true h3]; rfl
      · rw [if_neg h3, decide_eq_false h3]; rfl
    · rw [if_neg h2, decide_eq_false h2]; rfl
  · rw [if_neg h1, decide_eq_false h1]; rfl
theorem m_due0 (g : good0 τ R G B P) {r : Nat} (h : anyb (dueb τ r) B = false) : f_X5_bookingFor τ (nI r) = some (-1) := by
  have hB := g.B30
  have hl : kh_lp (fun a : Int32 => f_X5_bookingFor_B2 τ (nI r) a) 9999 (0 : Int32) = some (.inr ()) := kp_lp B (fun j => nI j) (fun j hj => by rw [m_due_step g hj, anyb_no h hj]; rfl) (by
    unfold f_X5_bookingFor_B2
    rw [g.1.2.2.2.2.1, if_pos (nI_le (Nat.le_refl _) (by omega))]) 9999 (by omega)
  unfold f_X5_bookingFor
  rw [hl]
  rfl
theorem m_due1 (g : good0 τ R G B P) {r : Nat} {m : Nat} (hm : m < B) (h : dueb τ r m = true) (h2 : ∀ j, j < m → dueb τ r j = false) : f_X5_bookingFor τ (nI r) = some (nI m) := by
  have hB := g.B30
  have hl : kh_lp (fun a : Int32 => f_X5_bookingFor_B2 τ (nI r) a) 9999 (0 : Int32) = some (.inl (nI m)) := kp_lp m (fun j => nI j) (fun j hj => by rw [m_due_step g (by omega), h2 j hj]; rfl) (by rw [m_due_step g hm, h]; rfl) 9999 (by omega)
  unfold f_X5_bookingFor
  rw [hl]
  rfl
theorem c_kept_step (q : relC ρ σ R G B P) (g : good0 σ R G B P) {r b : Nat} (hr : r < R) (hb : b < B) : f_X4_isKeptForBooking_B2 ρ (nI r) (nI b) = some (if keptb σ P r b = true then .inr (.inl ()) else .inl (nI (b + 1))) := by
  have hB := g.B30
  obtain ⟨b1, b2, b3, b4, b5, b6, b7⟩ := c_bk q g hb
  unfold f_X4_isKeptForBooking_B2 f_X4_isKeptForBooking_L50
  rw [q.1.2.2.2.2.1, if_neg (nI_ge hb (by omega)), kp_gdT b2, b1, kp_gdT b3, nI_clamp (show b < 2 ^ 31 by omega), b4, kp_gdT b7, kp_gdT (q.i6 g hr), b5, b6, q.1.2.2.2.2.2.2.2, nI_1, c_dist q g hr, kp_bd]
  unfold keptb
  by_cases h1 : σ 48 0 0 b = nI r
  · rw [if_pos h1, decide_eq_true h1]
    by_cases h2 : σ 50 0 0 b = 0
    · rw [if_pos h2, decide_eq_true h2]
      by_cases h3 : dst σ P r ≤ σ 49 0 0 b - σ 15 1 0 0
      · rw [if_pos h3, decide_eq_true h3]; rfl
      · rw [if_neg h3, decide_eq_false h3]; rfl
    · rw [if_neg h2, decide_eq_false h2]; rfl
  · rw [if_neg h1, decide_eq_false h1]; rfl
theorem c_kept (q : relC ρ σ R G B P) (g : good0 σ R G B P) {r : Nat} (hr : r < R) : f_X4_isKeptForBooking ρ (nI r) = some (if anyb (keptb σ P r) B = true then 1 else 0) := by
  have hB := g.B30
  unfold f_X4_isKeptForBooking
  cases h : anyb (keptb σ P r) B with
  | false =>
    have hl : kh_lp (fun a : Int32 => f_X4_isKeptForBooking_B2 ρ (nI r) a) 9999 (0 : Int32) = some (.inr ()) := kp_lp B (fun j => nI j) (fun j hj => by rw [c_kept_step q g hr hj, anyb_no h hj]; rfl) (by
      unfold f_X4_isKeptForBooking_B2
      rw [q.1.2.2.2.2.1, if_pos (nI_le (Nat.le_refl _) (by omega))]) 9999 (by omega)
    rw [hl]
    rfl
  | true =>
    obtain ⟨m, hm, x1, x2⟩ := anyb_first h
    have hl : kh_lp (fun a : Int32 => f_X4_isKeptForBooking_B2 ρ (nI r) a) 9999 (0 : Int32) = some (.inl ()) := kp_lp m (fun j => nI j) (fun j hj => by rw [c_kept_step q g hr (by omega), x2 j hj]; rfl) (by rw [c_kept_step q g hr hm, x1]; rfl) 9999 (by omega)
    rw [hl]
    rfl
theorem m_isNear (g : good0 τ R G B P) {r : Nat} (hr : r < R) : f_X5_isNear τ (nI r) = some (if anyb (keptb τ P r) B = true then 1 else 0) := by
  have hB := g.B30
  unfold f_X5_isNear
  have hl : kh_lp (fun a : Int32 × Int32 => f_X5_isNear_B4 τ (nI r) a.1 a.2) 9999 ((0 : Int32), (0 : Int32)) = some (if anyb (keptb τ P r) B = true then (1 : Int32) else 0) := by
    refine kp_lp B (fun k => (if anyb (keptb τ P r) k = true then (1 : Int32) else 0, nI k)) (fun k hk => ?_) ?_ 9999 (by omega)
    · show f_X5_isNear_B4 τ (nI r) (if anyb (keptb τ P r) k = true then (1 : Int32) else 0) (nI k) = some (.inl (if (anyb (keptb τ P r) k || keptb τ P r k) = true then (1 : Int32) else 0, nI (k + 1)))
      unfold f_X5_isNear_B4 f_X5_isNear_L57 f_X5_isNear_L61 f_X5_isNear_L62
      rw [g.1.2.2.2.2.1, if_neg (nI_ge hk (by omega)), kp_gdT (kp_in (show k < 30 by omega) (by omega)), nI_clamp (show k < 2 ^ 31 by omega), m_gapOf g hr, kp_bd, nI_1]
      cases e : anyb (keptb τ P r) k with
      | true => rfl
      | false =>
        rw [if_pos (by decide : (if false = true then (1 : Int32) else 0) = 0), Bool.false_or]
        unfold keptb
        by_cases h1 : τ 48 0 0 k = nI r
        · rw [if_pos h1, decide_eq_true h1]
          by_cases h2 : τ 50 0 0 k = 0
          · rw [if_pos h2, decide_eq_true h2]
            by_cases h3 : dst τ P r ≤ τ 49 0 0 k - τ 15 1 0 0
            · rw [if_pos (show (60 : Int32) + gsum (rtk τ r) (P r) ≤ τ 49 0 0 k - τ 15 1 0 0 from h3), decide_eq_true h3]; rfl
            · rw [if_neg (show ¬ (60 : Int32) + gsum (rtk τ r) (P r) ≤ τ 49 0 0 k - τ 15 1 0 0 from h3), decide_eq_false h3]; rfl
          · rw [if_neg h2, decide_eq_false h2]; rfl
        · rw [if_neg h1, decide_eq_false h1]; rfl
    · show f_X5_isNear_B4 τ (nI r) _ (nI B) = _
      unfold f_X5_isNear_B4
      rw [g.1.2.2.2.2.1, if_pos (nI_le (Nat.le_refl _) (by omega))]
  rw [hl, kp_bd]
  unfold f_X5_isNear_A4 f_X5_isNear_L69
  rw [kp_gdT kp_bi]
/-- which booking a group comes for -/
def dOK (d : Option Nat) (σ : kh_S) (r B : Nat) : Prop := match d with
  | none => anyb (dueb σ r) B = false
  | some m => m < B ∧ dueb σ r m = true ∧ ∀ j, j < m → dueb σ r j = false
theorem dOK_ex (σ : kh_S) (r B : Nat) : ∃ d, dOK d σ r B := by
  cases h : anyb (dueb σ r) B with
  | false => exact ⟨none, h⟩
  | true =>
    obtain ⟨m, hm, x1, x2⟩ := anyb_first h
    exact ⟨some m, hm, x1, x2⟩
theorem dOK_eqv (h : eqv σ τ) {d : Option Nat} {r : Nat} (hd : dOK d σ r B) : dOK d τ r B := by
  cases d with
  | none =>
    show anyb (dueb τ r) B = false
    rw [anyb_cong (dueb_eqv h r) B]; exact hd
  | some m =>
    obtain ⟨h1, h2, h3⟩ := hd
    exact ⟨h1, by rw [dueb_eqv h]; exact h2, fun j hj => by rw [dueb_eqv h]; exact h3 j hj⟩
theorem c_dueD (q : relC ρ σ R G B P) (g : good0 σ R G B P) {r : Nat} (hr : r < R) {d : Option Nat} (hd : dOK d σ r B) : f_X4_bookingDue ρ (nI r) = some (dco d) := by
  cases d with
  | none => exact c_due0 q g hr hd
  | some m => exact c_due1 q g hr hd.1 hd.2.1 hd.2.2
theorem m_dueD (g : good0 τ R G B P) {r : Nat} {d : Option Nat} (hd : dOK d τ r B) : f_X5_bookingFor τ (nI r) = some (dco d) := by
  cases d with
  | none => exact m_due0 g hd
  | some m => exact m_due1 g hd.1 hd.2.1 hd.2.2
theorem c_letIn (q : relC ρ σ R G B P) (g : good0 σ R G B P) {r : Nat} (hr : r < R) (hG : G < 30) {d : Option Nat} (hd : dOK d σ r B) : ∃ ρ', f_X4_letIn ρ (nI r) (dco d) = f_X4_letIn_L82 ρ ρ' (nI G) (nI G) ∧ relC ρ' (cm d σ G r (heldA σ P r)) R (G + 1) B P ∧ frC ρ ρ' := by
  have h4 := g.R4
  have hB := g.B30
  have hcr : (nI r).toNatClampNeg = r := nI_clamp (by omega)
  have hcG : (nI G).toNatClampNeg = G := nI_clamp (by omega)
  have e11 := q.n11 g
  obtain ⟨d0, d1, d6, d7, d8, d9, d10, d12, dk⟩ := q.r r hr
  have e61 : kh_mkG ρ (nI G) (nI r) (σ 15 1 0 0) (σ 28 0 0 r) (heldA σ P r) 61 1 0 0 = nI (G + 1) := by
    rw [rd_mkG e11]
    simp [q.1.2.2.2.1, nI_1]
  have en : kh_n (kh_mkG ρ (nI G) (nI r) (σ 15 1 0 0) (σ 28 0 0 r) (heldA σ P r)) 11 = G + 1 := by
    show (kh_mkG ρ (nI G) (nI r) (σ 15 1 0 0) (σ 28 0 0 r) (heldA σ P r) 61 1 0 0).toNatClampNeg = G + 1
    rw [e61, nI_clamp (by omega)]
  have en6 : kh_n (kh_mkG ρ (nI G) (nI r) (σ 15 1 0 0) (σ 28 0 0 r) (heldA σ P r)) 6 = R := by
    show (kh_mkG ρ (nI G) (nI r) (σ 15 1 0 0) (σ 28 0 0 r) (heldA σ P r) 61 0 0 0).toNatClampNeg = R
    rw [rd_mkG e11, if_neg (by omega), if_neg (by omega), q.1.2.1, nI_clamp (by omega)]
  have en14 : kh_n (kh_mkG ρ (nI G) (nI r) (σ 15 1 0 0) (σ 28 0 0 r) (heldA σ P r)) 14 = B := by
    show (kh_mkG ρ (nI G) (nI r) (σ 15 1 0 0) (σ 28 0 0 r) (heldA σ P r) 61 2 0 0).toNatClampNeg = B
    rw [rd_mkG e11, if_neg (by omega), if_neg (by omega), q.1.2.2.2.2.2.1, nI_clamp (by omega)]
  have e3 : (kh_up (kh_mkG ρ (nI G) (nI r) (σ 15 1 0 0) (σ 28 0 0 r) (heldA σ P r)) 2 0 0 G (nI G)) 0 3 0 0 = nI G := by
    rw [rd_ne (by decide), rd_mkG e11, if_neg (by omega), if_neg (by omega), q.1.2.2.1]
  have hfr : frC ρ (clA ρ G r (σ 15 1 0 0) (σ 28 0 0 r) (heldA σ P r)) := by
    intro k h1 h2
    unfold clA
    rw [up_k (by omega), up_k (by omega), up_k (by omega), up_k (by omega)]
    funext s i j
    rw [rd_mkG e11, if_neg (by omega), if_neg (by omega)]
  have hA := relC_cmA q g hr hG (heldA σ P r)
  refine ⟨clB d (clA ρ G r (σ 15 1 0 0) (σ 28 0 0 r) (heldA σ P r)) G, ?_, relC_cm d hA, ?_⟩
  · unfold f_X4_letIn
    rw [kp_gdT (q.i6 g hr), kh_gp_pos (ok_of q g), q.1.2.2.2.1, kp_gdT (kp_in (show G < 1000 by omega) (by omega)), kp_gdT (q.i6 g hr), hcr, c_givenBy (q.kR g hr), d10, d1, q.1.2.2.1, q.1.2.2.2.2.2.2.2]
    have hx : (decide (dco d < 0) || kh_in (dco d) (kh_n ρ 14)) = true := by
      cases d with
      | none => rfl
      | some m =>
        show (decide (nI m < 0) || kh_in (nI m) (kh_n ρ 14)) = true
        rw [q.i14 g hd.1]; simp
    rw [kp_gdT hx, kp_bd]
    show f_X4_letIn_L37 ρ (kh_mkG ρ (nI G) (nI r) (σ 15 1 0 0) (σ 28 0 0 r) (heldA σ P r)) (nI r) (dco d) (nI G) (nI G) = _
    unfold f_X4_letIn_L37
    rw [kp_gdT (kp_in (show G < 30 by omega) (by omega)), en, kp_gdT (kp_in (by omega) (by omega)), hcG, hcr, e3, nI_1, kh_n_up (by decide), kh_n_up (by decide), en6, kp_gdT (kp_in hr (by omega)), kh_n_up (by decide), kh_n_up (by decide), kh_n_up (by decide), kh_n_up (by decide), en14]
    cases d with
    | none =>
      show (if (-1 : Int32) < 0 then _ else _) = _
      rw [if_pos (by decide)]
      rfl
    | some m =>
      have hm : m < B := hd.1
      show (if nI m < 0 then _ else kh_gd (kh_in (nI m) B) _) = _
      rw [if_neg (nI_pos (by omega)), kp_gdT (kp_in hm (by omega))]
      show f_X4_letIn_L82 ρ (kh_up (kh_up _ 14 2 (nI m).toNatClampNeg 0 1) 14 3 (nI m).toNatClampNeg 0 (nI G)) (nI G) (nI G) = _
      rw [nI_clamp (show m < 2 ^ 31 by omega)]
      rfl
  · cases d with
    | none => exact hfr
    | some m => exact frC_up (frC_up hfr (by omega)) (by omega)
theorem m_comeA (gt : good0 τ R G B P) {r : Nat} (hr : r < R) (hG : G < 30) {d : Option Nat} (hd : dOK d τ r B) : f_X5_come_L89 τ (nI r) (dco d) 0 = if (heldA τ P r &&& (1 : Int32)) = 1 then kh_bd (f_X5_leaves (cm d (kh_up τ 15 0 0 0 0) G r (heldA τ P r)) (nI G) 1) (fun ρ_4 => f_X5_come_L232 ρ_4 (nI G)) else f_X5_come_L232 (cm d (kh_up τ 15 0 0 0 0) G r (heldA τ P r)) (nI G) := by
  have h4 := gt.R4
  have hB := gt.B30
  have h8 := (gt.r r hr).2.1
  have hcr : (nI r).toNatClampNeg = r := nI_clamp (by omega)
  have hcG : (nI G).toNatClampNeg = G := nI_clamp (by omega)
  have h14 : kh_up τ 15 0 0 0 0 15 14 0 0 = nI G := by simpa [up_rd] using gt.1.2.2.1
  have h25 : kh_up τ 15 0 0 0 0 25 0 0 r = nI (P r) := by simpa [up_rd] using (gt.r r hr).1
  have hh : heldA (kh_up τ 15 0 0 0 0) P r = heldA τ P r := by
    unfold heldA
    rw [rd_ne (by decide), rd_ne (by decide), rgv_up (by decide)]
  unfold f_X5_come_L89
  rw [m_ref0, kp_bd2, if_pos rfl, ← hh]
  generalize kh_up τ 15 0 0 0 0 = τ0 at h14 h25
  rw [h14, hcG, hcr, nI_1, kp_gdT (kp_in hG (by omega)), kp_gdT (kp_in (show r < 4 by omega) (by omega))]
  have e28 : (kh_up (kh_up (kh_up τ0 15 14 0 0 (nI (G + 1))) 35 0 0 G 0) 36 0 0 G (nI r)) 28 0 0 r = τ0 28 0 0 r := by
    rw [rd_ne (by decide), rd_ne (by decide), rd_ne (by decide)]
  rw [e28]
  have e24 : (kh_up (kh_up (kh_up (kh_up τ0 15 14 0 0 (nI (G + 1))) 35 0 0 G 0) 36 0 0 G (nI r)) 38 0 0 G (τ0 28 0 0 r)) 24 0 0 r = τ0 24 0 0 r := by
    rw [rd_ne (by decide), rd_ne (by decide), rd_ne (by decide), rd_ne (by decide)]
  have e28' : (kh_up (kh_up (kh_up (kh_up τ0 15 14 0 0 (nI (G + 1))) 35 0 0 G 0) 36 0 0 G (nI r)) 38 0 0 G (τ0 28 0 0 r)) 28 0 0 r = τ0 28 0 0 r := by
    rw [rd_ne (by decide), rd_ne (by decide), rd_ne (by decide), rd_ne (by decide)]
  have e25 : (kh_up (kh_up (kh_up (kh_up τ0 15 14 0 0 (nI (G + 1))) 35 0 0 G 0) 36 0 0 G (nI r)) 38 0 0 G (τ0 28 0 0 r)) 25 0 0 r = nI (P r) := by
    rw [rd_ne (by decide), rd_ne (by decide), rd_ne (by decide), rd_ne (by decide), h25]
  have e31 : rgv (kh_up (kh_up (kh_up (kh_up τ0 15 14 0 0 (nI (G + 1))) 35 0 0 G 0) 36 0 0 G (nI r)) 38 0 0 G (τ0 28 0 0 r)) r = rgv τ0 r := by
    rw [rgv_up (by decide), rgv_up (by decide), rgv_up (by decide), rgv_up (by decide)]
  rw [e24, e28', m_heldBy _ (show r < 4 by omega) e25 h8, e31, kp_bd]
  have e1 : (kh_up (kh_up (kh_up (kh_up (kh_up τ0 15 14 0 0 (nI (G + 1))) 35 0 0 G 0) 36 0 0 G (nI r)) 38 0 0 G (τ0 28 0 0 r)) 37 0 0 G (heldA τ0 P r)) 15 1 0 0 = τ0 15 1 0 0 := by
    rw [rd_ne (by decide), rd_ne (by decide), rd_ne (by decide), rd_ne (by decide), kh_up_ne (by omega)]
  have hend : ∀ t : kh_S, t 37 0 0 G = heldA τ0 P r → f_X5_come_L197 t (nI r) (nI G) = if (heldA τ0 P r &&& (1 : Int32)) = 1 then kh_bd (f_X5_leaves (kh_up (kh_up t 26 0 0 r 1) 29 0 0 r (nI G)) (nI G) 1) (fun ρ_4 => f_X5_come_L232 ρ_4 (nI G)) else f_X5_come_L232 (kh_up (kh_up t 26 0 0 r 1) 29 0 0 r (nI G)) (nI G) := by
    intro t ht
    unfold f_X5_come_L197
    rw [kp_gdT (kp_in (show r < 4 by omega) (by omega)), kp_gdT (kp_in hG (by omega)), hcr, hcG, rd_ne (by decide), rd_ne (by decide), ht]
  rw [show τ0 24 0 0 r ||| gby (bt (τ0 28 0 0 r)) (rgv τ0 r) (P r) = heldA τ0 P r from rfl, e1]
  cases d with
  | none =>
    show (if (-1 : Int32) = -1 then _ else _) = _
    rw [if_pos rfl, hend _ (by rw [rd_ne (by decide), up_at])]
    rfl
  | some m =>
    have hm : m < B := hd.1
    show (if nI m = -1 then _ else kh_gd (kh_in (nI m) 30) (f_X5_come_L197 (kh_up (kh_up _ 50 0 0 (nI m).toNatClampNeg 1) 51 0 0 (nI m).toNatClampNeg (nI G)) (nI r) (nI G))) = _
    rw [if_neg (nI_m1 (by omega)), kp_gdT (kp_in (show m < 30 by omega) (by omega)), nI_clamp (show m < 2 ^ 31 by omega), hend _ (by rw [rd_ne (by decide), rd_ne (by decide), rd_ne (by decide), up_at])]
    rfl
theorem kM_cm (h : kM τ σ) (d : Option Nat) (G r : Nat) (held : Int32) : kM (cm d τ G r held) (cm d σ G r held) := by
  have hA : kM (cmA τ G r held) (cmA σ G r held) := kM_up (kM_up (kM_up (kM_up (kM_up (kM_up h 15 14 0 0 rfl) 35 0 0 G rfl) 36 0 0 G rfl) 38 0 0 G (by rw [h 28 (by omega) (by omega)])) 37 0 0 G rfl) 39 0 0 G (by rw [h 15 (by omega) (by omega)])
  have hB : kM (cmB d (cmA τ G r held) G) (cmB d (cmA σ G r held) G) := by
    cases d with
    | none => exact hA
    | some m => exact kM_up (kM_up hA 50 0 0 m rfl) 51 0 0 m rfl
  exact kM_up (kM_up hB 26 0 0 r rfl) 29 0 0 r rfl
theorem frM_cm {a b : kh_S} (h : frM a b) (d : Option Nat) (G r : Nat) (held : Int32) : frM a (cm d b G r held) := by
  have hA : frM a (cmA b G r held) := frM_up (frM_up (frM_up (frM_up (frM_up (frM_up h (by omega)) (by omega)) (by omega)) (by omega)) (by omega)) (by omega)
  have hB : frM a (cmB d (cmA b G r held) G) := by
    cases d with
    | none => exact hA
    | some m => exact frM_up (frM_up hA (by omega)) (by omega)
  exact frM_up (frM_up hB (by omega)) (by omega)
theorem heldA_eqv (h : eqv σ τ) (r : Nat) : heldA τ P r = heldA σ P r := by
  unfold heldA
  rw [h.1 24 (by omega) (by omega), h.1 28 (by omega) (by omega), (eqv_w h r).2.2.1]
theorem dco_lt (d : Option Nat) (h : ∀ m, d = some m → m < 30) : (dco d < 0 ↔ d = none) ∧ (dco d = -1 ↔ d = none) := by
  cases d with
  | none => exact ⟨⟨fun _ => rfl, fun _ => by decide⟩, ⟨fun _ => rfl, fun _ => rfl⟩⟩
  | some m =>
    have := h m rfl
    refine ⟨⟨fun z => absurd z (nI_pos (by omega)), fun z => by cases z⟩, ⟨fun z => absurd z (nI_m1 (by omega)), fun z => by cases z⟩⟩
theorem q_come (gg : good σ R G B P) (a1 : Int32) : stepOK (fun ρ => f_L_come ρ a1) (fun τ => f_X5_come τ a1) σ R G B P := by
  have g := gg.1
  have h4 := g.R4
  have hB := g.B30
  have h30 := g.G30
  rcases ix_cases a1 R (by omega) with h | ⟨r, hr, rfl⟩
  · refine stepE gg 1 0 (by decide) (fun ρ q => ?_) (fun τ gt _ => ?_)
    · show f_L_come ρ a1 = _
      unfold f_L_come f_X4_come
      rw [c_rn0 q h, kp_bxl, kx_l, if_pos rfl]
      rfl
    · show f_X5_come τ a1 = _
      unfold f_X5_come f_X5_come_L19 f_X5_come_L67 f_X5_come_L68 f_X5_come_L89
      rw [m_isRoom gt, if_pos h, kp_bd, if_pos rfl, if_pos rfl, if_pos rfl, m_ref1, kp_bd2, if_neg one_ne]
  obtain ⟨d, hd⟩ := dOK_ex σ r B
  have hdl := dco_lt d (fun m e => by subst e; have := hd.1; omega)
  have hcr : (nI r).toNatClampNeg = r := nI_clamp (by omega)
  obtain ⟨ex, hex⟩ : ∃ ex : Prop, ex ↔ (0 < P r ∧ bt (rch (wk σ r) (rnd σ r) (rgv σ r) (P r) (σ 24 0 0 r)) 0 = true) := ⟨_, Iff.rfl⟩
  -- what the two answer by their conditions
  have hC : ∀ ρ σ', eqv σ σ' → relC ρ σ' R G B P → (¬ (σ 26 0 0 r = 0 ∧ ex ∧ (d = none → anyb (keptb σ P r) B = false) ∧ G < 30) → f_X4_come ρ (nI r) = some (.inl (kh_E2, ρ))) ∧ ((σ 26 0 0 r = 0 ∧ ex ∧ (d = none → anyb (keptb σ P r) B = false) ∧ G < 30) → f_X4_come ρ (nI r) = kh_bd2 (f_X4_letIn ρ (nI r) (dco d)) (fun r_2 ρ_2 => some (.inr (r_2, ρ_2)))) := by
    intro ρ σ' he q
    have g' := eqv_good0 he g
    obtain ⟨w, w1, w2, -⟩ := eqv_w he r
    unfold f_X4_come f_X4_come_L21 f_X4_come_L59
    rw [c_rn1 q g' hr, kp_bxr, kp_gdT (q.i6 g' hr), hcr, (q.r r hr).2.2.2.2.1, he.1 26 (by omega) (by omega), c_hasExit q g' hr, kp_bd, c_dueD q g' hr (dOK_eqv he hd), kp_bd, c_kept q g' hr, kp_bd, anyb_cong (keptb_eqv he P r) B, q.1.2.2.1, w, w1, w2, he.1 24 (by omega) (by omega)]
    by_cases c1 : σ 26 0 0 r = 0
    · rw [if_pos c1]
      by_cases c2 : ex
      · rw [if_pos (hex.mp c2), if_neg one_ne]
        cases d with
        | none =>
          rw [if_pos (show dco none < 0 by decide)]
          cases c3 : anyb (keptb σ P r) B with
          | true =>
            rw [if_neg (by decide)]
            exact ⟨fun _ => rfl, fun z => by have := z.2.2.1 rfl; cases this⟩
          | false =>
            rw [if_pos (by decide)]
            by_cases c4 : G < 30
            · rw [if_pos (show nI G < 30 from nI_lt (b := 30) c4 (by omega))]
              exact ⟨fun z => absurd ⟨c1, c2, fun _ => rfl, c4⟩ z, fun _ => rfl⟩
            · rw [if_neg (show ¬ nI G < 30 from nI_nlt (b := 30) (by omega) (by omega))]
              exact ⟨fun _ => rfl, fun z => absurd z.2.2.2 c4⟩
        | some m =>
          rw [if_neg (show ¬ dco (some m) < 0 from fun z => by have := hdl.1.mp z; cases this)]
          by_cases c4 : G < 30
          · rw [if_pos (show nI G < 30 from nI_lt (b := 30) c4 (by omega))]
            exact ⟨fun z => absurd ⟨c1, c2, fun z => by (cases z), c4⟩ z, fun _ => rfl⟩
          · rw [if_neg (show ¬ nI G < 30 from nI_nlt (b := 30) (by omega) (by omega))]
            exact ⟨fun _ => rfl, fun z => absurd z.2.2.2 c4⟩
      · rw [if_neg (fun z => c2 (hex.mpr z)), if_pos rfl]
        exact ⟨fun _ => rfl, fun z => absurd z.2.1 c2⟩
    · rw [if_neg c1]
      exact ⟨fun _ => rfl, fun z => absurd z.1 c1⟩
  have hM : ∀ τ, kM τ σ → (¬ (σ 26 0 0 r = 0 ∧ ex ∧ (d = none → anyb (keptb σ P r) B = false) ∧ G < 30) → f_X5_come τ (nI r) = f_X5_come_L89 τ (nI r) (dco d) 2) ∧ ((σ 26 0 0 r = 0 ∧ ex ∧ (d = none → anyb (keptb σ P r) B = false) ∧ G < 30) → f_X5_come τ (nI r) = f_X5_come_L89 τ (nI r) (dco d) 0) := by
    intro τ e
    have he := eqv_M e
    have gt := eqv_good0 he g
    obtain ⟨w, w1, w2, -⟩ := eqv_w he r
    unfold f_X5_come f_X5_come_L19 f_X5_come_L67 f_X5_come_L54 f_X5_come_L68
    rw [m_isRoom gt, if_neg (no_ix hr (by omega)), kp_bd, if_neg one_ne, m_dueD gt (dOK_eqv he hd), kp_bd, if_neg one_ne, kp_gdT (kp_in (show r < 4 by omega) (by omega)), hcr, e 26 (by omega) (by omega), m_isLeavable gt hr, kp_bd, m_isNear gt hr, kp_bd, anyb_cong (keptb_eqv he P r) B, gt.1.2.2.1, w, w1, w2, e 24 (by omega) (by omega)]
    by_cases c1 : σ 26 0 0 r = 0
    · rw [if_pos c1]
      by_cases c2 : ex
      · rw [if_pos (hex.mp c2), if_neg one_ne]
        cases d with
        | none =>
          rw [if_pos (show dco none = -1 by decide)]
          cases c3 : anyb (keptb σ P r) B with
          | true =>
            rw [if_neg (by decide)]
            exact ⟨fun _ => rfl, fun z => by have := z.2.2.1 rfl; cases this⟩
          | false =>
            rw [if_pos (by decide)]
            by_cases c4 : G < 30
            · rw [if_neg (show ¬ 30 ≤ nI G from nI_ge (b := 30) c4 (by omega))]
              exact ⟨fun z => absurd ⟨c1, c2, fun _ => rfl, c4⟩ z, fun _ => rfl⟩
            · rw [if_pos (show 30 ≤ nI G from nI_le (a := 30) (by omega) (by omega))]
              exact ⟨fun _ => rfl, fun z => absurd z.2.2.2 c4⟩
        | some m =>
          rw [if_neg (show ¬ dco (some m) = -1 from fun z => by have := hdl.2.mp z; cases this)]
          by_cases c4 : G < 30
          · rw [if_neg (show ¬ 30 ≤ nI G from nI_ge (b := 30) c4 (by omega))]
            exact ⟨fun z => absurd ⟨c1, c2, fun z => by (cases z), c4⟩ z, fun _ => rfl⟩
          · rw [if_pos (show 30 ≤ nI G from nI_le (a := 30) (by omega) (by omega))]
            exact ⟨fun _ => rfl, fun z => absurd z.2.2.2 c4⟩
      · rw [if_neg (fun z => c2 (hex.mpr z)), if_pos rfl]
        exact ⟨fun _ => rfl, fun z => absurd z.2.1 c2⟩
    · rw [if_neg c1]
      exact ⟨fun _ => rfl, fun z => absurd z.1 c1⟩
  by_cases hc : σ 26 0 0 r = 0 ∧ ex ∧ (d = none → anyb (keptb σ P r) B = false) ∧ G < 30
  · obtain ⟨c1, c2, c3, c4⟩ := id hc
    have g1 := eqv_good (eqv_thr σ 0) gg
    have he1 := eqv_thr σ 0
    obtain ⟨w, w1, w2, -⟩ := eqv_w he1 r
    have hd1 := dOK_eqv he1 hd
    generalize hs : kh_up σ 15 0 0 0 0 = σ1 at g1 he1 w w1 w2 hd1
    have t1 : σ1 15 0 0 0 = 0 := by rw [← hs]; exact up_at _ _ _ _ _ _
    have c1' : σ1 26 0 0 r = 0 := by rw [← hs]; simpa [up_rd] using c1
    have hx1 : bt (rch (wk σ1 r) (rnd σ1 r) (rgv σ1 r) (P r) (σ1 24 0 0 r)) 0 = true := by
      rw [w, w1, w2, he1.1 24 (by omega) (by omega)]
      exact (hex.mp c2).2
    have hcm : ∀ k, k ≠ 50 → k ≠ 51 → cm d σ1 G r (heldA σ1 P r) k = cm none σ1 G r (heldA σ1 P r) k := fun k h1 h2 => cm_ne d _ _ _ _ h1 h2
    have g2 := good0_cm g1.1 hr c4 c1' (heldA σ1 P r)
    have hthr : cm d σ1 G r (heldA σ1 P r) 15 0 0 0 = 0 := by rw [cm_thr]; exact t1
    have hMM : ∀ τ, good0 τ R G B P → kM τ σ → ∃ τ', kM τ' (cm d σ1 G r (heldA σ1 P r)) ∧ frM τ τ' ∧ f_X5_come τ (nI r) = if (heldA σ1 P r &&& (1 : Int32)) = 1 then kh_bd (f_X5_leaves τ' (nI G) 1) (fun ρ_4 => f_X5_come_L232 ρ_4 (nI G)) else f_X5_come_L232 τ' (nI G) := by
      intro τ gt e
      have e1 : kM (kh_up τ 15 0 0 0 0) σ1 := by rw [← hs]; exact kM_up e 15 0 0 0 rfl
      have hh : heldA τ P r = heldA σ1 P r := by rw [heldA_eqv (eqv_M e), heldA_eqv he1]
      refine ⟨cm d (kh_up τ 15 0 0 0 0) G r (heldA σ1 P r), kM_cm e1 d G r _, frM_cm (frM_up (frM_rfl τ) (by omega)) d G r _, ?_⟩
      rw [(hM τ e).2 hc, m_comeA gt hr c4 (dOK_eqv (eqv_M e) hd), hh]
    have hCC : ∀ ρ, relC ρ σ1 R G B P → ∃ ρ', relC ρ' (cm d σ1 G r (heldA σ1 P r)) R (G + 1) B P ∧ frC ρ ρ' ∧ f_L_come ρ (nI r) = kh_hx (kh_bd2 (f_X4_letIn_L82 ρ ρ' (nI G) (nI G)) (fun r_2 ρ_2 => some (.inr (r_2, ρ_2)))) (fun E => if E = kh_E3 then some (1 : Int32) else (if E = kh_E2 then some (2 : Int32) else none)) (fun r => some ((0 : Int32), kh_up r.2 60 0 0 (0 : Int32).toNatClampNeg r.1)) := by
      intro ρ q
      obtain ⟨ρ', k1, k2, k3⟩ := c_letIn q g1.1 hr c4 hd1
      refine ⟨ρ', k2, k3, ?_⟩
      unfold f_L_come
      rw [(hC ρ σ1 he1 q).2 hc, k1]
    have b8 : (heldA σ1 P r &&& (1 : Int32)) = 1 ↔ bt (heldA σ1 P r) 0 = true := kp_a1' _
    have g2d : good0 (cm d σ1 G r (heldA σ1 P r)) R (G + 1) B P := by
      have key := hcm
      generalize cm d σ1 G r (heldA σ1 P r) = σ2 at key
      have e15 := key 15 (by omega) (by omega)
      have e25 := key 25 (by omega) (by omega)
      have e26 := key 26 (by omega) (by omega)
      have e27 := key 27 (by omega) (by omega)
      have e28 := key 28 (by omega) (by omega)
      have e29 := key 29 (by omega) (by omega)
      have e32 := key 32 (by omega) (by omega)
      have e33 := key 33 (by omega) (by omega)
      have e35 := key 35 (by omega) (by omega)
      have e36 := key 36 (by omega) (by omega)
      have e38 := key 38 (by omega) (by omega)
      have e40 := key 40 (by omega) (by omega)
      have e41 := key 41 (by omega) (by omega)
      have e42 := key 42 (by omega) (by omega)
      have e43 := key 43 (by omega) (by omega)
      have e44 := key 44 (by omega) (by omega)
      have e45 := key 45 (by omega) (by omega)
      have e46 := key 46 (by omega) (by omega)
      have e48 := key 48 (by omega) (by omega)
      have e49 := key 49 (by omega) (by omega)
      have q := g2
      unfold good0 gS gR gN gP gG gH gW gD gB rpr rtk at q ⊢
      simp only [e15, e25, e26, e27, e28, e29, e32, e33, e35, e36, e38, e40, e41, e42, e43, e44, e45, e46, e48, e49]
      exact q
    cases hb : bt (heldA σ1 P r) 0 with
    | true =>
      have g3 : good (lv (cm d σ1 G r (heldA σ1 P r)) G 1 r) R (G + 1) B P := by
        have g3n : good (lv (cm none σ1 G r (heldA σ1 P r)) G 1 r) R (G + 1) B P := ⟨good0_lv g2 (by omega) hr (cm_36 none _ _ _ _) (cm_35 none _ _ _ _) (by decide), fun r' hr' => ⟨gQ1_lv (fun e => (gQ_cm g1 hr c4 c1' hx1 hr' (fun e2 => absurd e2 e)).1), gQ2_lv (fun e => (gQ_cm g1 hr c4 c1' hx1 hr' (fun e2 => absurd e2 e)).2)⟩⟩
        refine good_50 (fun k h1 h2 => ?_) g3n
        have h38 := hcm 38 (by omega) (by omega)
        funext s i j
        simp only [lv, up_rd, hcm k h1 h2, h38]
      refine stepG gg g3 (by rw [lv_ne (by omega)]; exact hthr) (nI G) (fun ρ q => ?_) (fun τ gt e => ?_)
      · rw [hs] at q
        obtain ⟨ρ', q', f', e'⟩ := hCC ρ q
        obtain ⟨ρ2, h1, h2, h3⟩ := c_leave q' g2d (show G < G + 1 by omega) hr (cm_36 d _ _ _ _) 1
        refine ⟨ρ2, ?_, h2, frC_tr f' h3⟩
        show f_L_come ρ (nI r) = _
        rw [e']
        unfold f_X4_letIn_L82 f_X4_leaveIfOut f_X4_leaveIfOut_L16
        rw [kp_gdT (q'.i11 g2d (show G < G + 1 by omega)), nI_clamp (show G < 2 ^ 31 by omega), (q'.g G (by omega)).2.2.2.2.2.2.2.1, cm_37, c_has0, kp_bd, if_pos hb, if_neg one_ne, h1, kp_bd, kp_bd, kp_bd2, kx_r]
      · obtain ⟨τ', k', f', e'⟩ := hMM τ gt e
        refine ⟨lv τ' G 1 r, ?_, kM_lv k' G 1 r, frM_lv f' G 1 r⟩
        show f_X5_come τ (nI r) = _
        rw [e', if_pos (b8.mpr hb), m_leaves _ (show G < 30 by omega) (show r < 4 by omega) (by rw [k' 36 (by omega) (by omega)]; exact cm_36 d _ _ _ _), kp_bd]
        rfl
    | false =>
      have g3 : good (cm d σ1 G r (heldA σ1 P r)) R (G + 1) B P := good_50 hcm ⟨g2, fun r' hr' => gQ_cm g1 hr c4 c1' hx1 hr' (fun _ => hb)⟩
      have hb' : ¬ bt (heldA σ1 P r) 0 = true := by rw [hb]; decide
      refine stepG gg g3 hthr (nI G) (fun ρ q => ?_) (fun τ gt e => ?_)
      · rw [hs] at q
        obtain ⟨ρ', q', f', e'⟩ := hCC ρ q
        refine ⟨ρ', ?_, q', f'⟩
        show f_L_come ρ (nI r) = _
        rw [e']
        unfold f_X4_letIn_L82 f_X4_leaveIfOut f_X4_leaveIfOut_L16
        rw [kp_gdT (q'.i11 g2d (show G < G + 1 by omega)), nI_clamp (show G < 2 ^ 31 by omega), (q'.g G (by omega)).2.2.2.2.2.2.2.1, cm_37, c_has0, kp_bd, if_neg hb', if_pos rfl, kp_bd, kp_bd2, kx_r]
      · obtain ⟨τ', k', f', e'⟩ := hMM τ gt e
        refine ⟨τ', ?_, k', f'⟩
        show f_X5_come τ (nI r) = _
        rw [e', if_neg (fun z => hb' (b8.mp z))]
        rfl
  · refine stepE gg 2 0 (by decide) (fun ρ q => ?_) (fun τ gt e => ?_)
    · show f_L_come ρ (nI r) = _
      unfold f_L_come
      rw [(hC ρ σ ⟨fun _ _ _ => rfl, fun _ _ _ _ => rfl⟩ q).1 hc, kx_l]
      simp only [kE2_3, if_false, if_true]
      rfl
    · show f_X5_come τ (nI r) = _
      rw [(hM τ e).1 hc]
      unfold f_X5_come_L89
      rw [m_ref2, kp_bd2, if_neg one_ne]
end COMES
