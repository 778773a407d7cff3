/-! book, cancel, offer -/
theorem rd_ne {ρ : kh_S} {k s i j : Nat} {v : Int32} {k' s' i' j' : Nat} (h : k' ≠ k) : kh_up ρ k s i j v k' s' i' j' = ρ k' s' i' j' := kh_up_ne (fun z => h z.1)
theorem nI_sub1 (n : Nat) : nI (n + 1) - 1 = nI n := nI_pred n
def bkd (σ : kh_S) (r B : Nat) (x : Int32) : kh_S := kh_up (kh_up (kh_up (kh_up (kh_up σ 48 0 0 B (nI r)) 49 0 0 B x) 50 0 0 B 0) 51 0 0 B (-1)) 15 27 0 0 (nI (B + 1))
section OFFER
variable {ρ σ τ : kh_S} {R G B : Nat} {P : Nat → Nat}
theorem m_bkd (τ : kh_S) {r : Nat} (hB : B < 30) (e : τ 15 27 0 0 = nI B) (x : Int32) : f_X5_book_L56 τ (nI r) x 0 = some (nI B, bkd (kh_up τ 15 0 0 0 0) r B x) := by
  unfold f_X5_book_L56
  have h0 : kh_up τ 15 0 0 0 0 15 27 0 0 = nI B := by simpa [up_rd] using e
  have hc : (nI B).toNatClampNeg = B := nI_clamp (by omega)
  have hi : kh_in (nI B) 30 = true := kp_in hB (by omega)
  rw [m_ref0, kp_bd2, if_pos rfl]
  generalize kh_up τ 15 0 0 0 0 = τ0 at h0 ⊢
  have h1 : (kh_up τ0 48 0 0 B (nI r)) 15 27 0 0 = nI B := by rw [rd_ne (by decide), h0]
  have h2 : (kh_up (kh_up τ0 48 0 0 B (nI r)) 49 0 0 B x) 15 27 0 0 = nI B := by rw [rd_ne (by decide), h1]
  have h3 : (kh_up (kh_up (kh_up τ0 48 0 0 B (nI r)) 49 0 0 B x) 50 0 0 B 0) 15 27 0 0 = nI B := by rw [rd_ne (by decide), h2]
  have h4 : (kh_up (kh_up (kh_up (kh_up τ0 48 0 0 B (nI r)) 49 0 0 B x) 50 0 0 B 0) 51 0 0 B (-1)) 15 27 0 0 = nI B := by rw [rd_ne (by decide), h3]
  rw [h0, hc, kp_gdT hi, h1, hc, kp_gdT hi, h2, hc, kp_gdT hi, h3, hc, kp_gdT hi, h4, up_at, nI_1, nI_sub1]
  rfl
theorem kM_bkd (h : kM τ σ) (r B : Nat) (x : Int32) : kM (bkd τ r B x) (bkd σ r B x) := kM_up (kM_up (kM_up (kM_up (kM_up h 48 0 0 B rfl) 49 0 0 B rfl) 50 0 0 B rfl) 51 0 0 B rfl) 15 27 0 0 rfl
theorem frM_bkd {a b : kh_S} (h : frM a b) (r B : Nat) (x : Int32) : frM a (bkd b r B x) := frM_up (frM_up (frM_up (frM_up (frM_up h (by omega)) (by omega)) (by omega)) (by omega)) (by omega)
theorem good_bkd (gg : good σ R G B P) {r m : Nat} (hr : r < R) (hB : B < 30) (hm : m ≤ 4940) : good (bkd σ r B (nI m)) R G (B + 1) P := by
  have g := gg.1
  refine ⟨⟨?_, fun r' hr' => ?_, fun r' h1 h2 => ?_, fun r' hr' => ?_, fun g' hg' => ?_, ?_, fun j hj => ?_, ?_, fun b hb => ?_⟩, fun r' hr' => ⟨?_, ?_⟩⟩
  · obtain ⟨a1, a2, a3, a4, a5, a6, a7⟩ := g.1
    refine ⟨?_, a2, ?_, a4, ?_, by omega, ?_⟩
    · simpa [bkd, up_rd] using a1
    · simpa [bkd, up_rd] using a3
    · simp [bkd, up_rd]
    · simpa [bkd, up_rd] using a7
  · simpa [gR, bkd, up_rd, rpr_up, rtk_up] using g.r r' hr'
  · simpa [bkd, up_rd] using g.n r' h1 h2
  · simpa [gP, bkd, up_rd] using g.p r' hr'
  · simpa [gG, bkd, up_rd] using g.g g' hg'
  · simpa [gH, bkd, up_rd] using g.h
  · simpa [gW, bkd, up_rd] using g.w j hj
  · simpa [gD, bkd, up_rd] using g.d
  · by_cases e : b = B
    · subst e
      exact ⟨⟨r, hr, by simp [bkd, up_rd]⟩, m, hm, by simp [bkd, up_rd]⟩
    · simpa [gB, bkd, up_rd, e] using g.b b (by omega)
  · have h := (gg.2 r' hr').1
    simpa [gQ1, bkd, up_rd, rgv_up] using h
  · have h := (gg.2 r' hr').2
    have w : wk (bkd σ r B (nI m)) r' = wk σ r' := by
      funext k
      simp [wk, bkd, up_rd, rpr_up]
    have w1 : rnd (bkd σ r B (nI m)) r' = rnd σ r' := by simp [bkd, rnd_up]
    have w2 : rgv (bkd σ r B (nI m)) r' = rgv σ r' := by simp [bkd, rgv_up]
    unfold gQ2
    rw [w, w1, w2]
    simpa [gQ2, bkd, up_rd] using h
theorem rd_mkB {b : Nat} (e : kh_n ρ 14 = b) (pl be : Int32) (k s i j : Nat) : kh_mkB ρ pl be k s i j = if i = b ∧ k = 14 then (if s = 0 then pl else if s = 1 then be else if s = 3 then -1 else 0) else if k = 61 ∧ s = 2 ∧ i = 0 ∧ j = 0 then ρ 61 2 0 0 + 1 else ρ k s i j := by
  unfold kh_mkB
  rw [e]
theorem c_bkd (q : relC ρ σ R G B P) (g : good0 σ R G B P) {r : Nat} (hr : r < R) (hB : B < 30) (x : Int32) : ∃ ρ', f_X4_book_L90 ρ (kh_mkB ρ (nI r) x) (nI B) (nI B) (nI B) = some (.inr (nI B, ρ')) ∧ relC ρ' (bkd σ r B x) R G (B + 1) P ∧ frC ρ ρ' := by
  have hc : (nI B).toNatClampNeg = B := nI_clamp (by omega)
  have e14 := q.n14 g
  have e61 : kh_mkB ρ (nI r) x 61 2 0 0 = nI (B + 1) := by
    rw [rd_mkB e14]
    simp [q.1.2.2.2.2.2.1, nI_1]
  have en : kh_n (kh_mkB ρ (nI r) x) 14 = B + 1 := by
    show (kh_mkB ρ (nI r) x 61 2 0 0).toNatClampNeg = B + 1
    rw [e61, nI_clamp (by omega)]
  have e5 : (kh_up (kh_mkB ρ (nI r) x) 3 0 0 B (nI B)) 0 5 0 0 = nI B := by
    rw [rd_ne (by decide), rd_mkB e14]
    simp [q.1.2.2.2.2.1]
  unfold f_X4_book_L90
  rw [kp_gdT (kp_in hB (by omega)), en, kp_gdT (kp_in (by omega) (by omega)), hc, e5, nI_1]
  refine ⟨_, rfl, ?_, fun k h1 h2 => ?_⟩
  · refine ⟨?_, ?_, fun r' hr' => ?_, fun g' hg' => ?_, fun j hj => ?_, fun b hb => ?_⟩
    · obtain ⟨a1, a2, a3, a4, a5, a6, a7, a8⟩ := q.1
      refine ⟨?_, ?_, ?_, ?_, ?_, ?_, ?_, ?_⟩
      · simpa [up_rd, rd_mkB e14] using a1
      · simpa [up_rd, rd_mkB e14] using a2
      · simpa [up_rd, rd_mkB e14] using a3
      · simpa [up_rd, rd_mkB e14] using a4
      · simp [up_rd]
      · rw [rd_ne (by decide), rd_ne (by decide), e61]
      · simpa [bkd, up_rd, rd_mkB e14] using a7
      · simpa [bkd, up_rd, rd_mkB e14] using a8
    · obtain ⟨a1, a2, a3, a4⟩ := q.2.1
      refine ⟨fun j => ?_, fun j => ?_, fun j => ?_, fun j => ?_⟩
      · simpa [up_rd, rd_mkB e14] using a1 j
      · simpa [up_rd, rd_mkB e14] using a2 j
      · by_cases e : j = B
        · subst e; simp [up_rd]
        · have h := a3 j
          have z : (j < B + 1) ↔ (j < B) := by omega
          simp only [z]
          simpa [up_rd, rd_mkB e14, e] using h
      · simpa [up_rd, rd_mkB e14] using a4 j
    · simpa [cR, bkd, up_rd, rnd_up, rgv_up, rpr_up, rtk_up, rd_mkB e14] using q.r r' hr'
    · simpa [cG, bkd, up_rd, rd_mkB e14] using q.g g' hg'
    · simpa [cW, bkd, up_rd, rd_mkB e14] using q.w j hj
    · by_cases e : b = B
      · subst e
        simp [cB, bkd, up_rd, rd_mkB e14]
      · simpa [cB, bkd, up_rd, rd_mkB e14, e] using q.b b (by omega)
  · rw [up_k (by omega), up_k (by omega)]
    funext s i j
    rw [rd_mkB e14, if_neg (by omega), if_neg (by omega)]
theorem q_book (gg : good σ R G B P) (a1 a2 : Int32) : stepOK (fun ρ => f_L_book ρ a1 a2) (fun τ => f_X5_book τ a1 a2) σ R G B P := by
  have g := gg.1
  have h4 := g.R4
  have hB := g.B30
  rcases ix_cases a1 R (by omega) with h | ⟨r, hr, rfl⟩
  · refine stepE gg 1 0 (by decide) (fun ρ q => ?_) (fun τ gt _ => ?_)
    · show f_L_book ρ a1 a2 = _
      unfold f_L_book f_X4_book
      rw [c_rn0 q h, kp_bxl, kx_l, if_pos rfl]
      rfl
    · show f_X5_book τ a1 a2 = _
      unfold f_X5_book f_X5_book_L56
      rw [m_isRoom gt, if_pos h, kp_bd, if_pos rfl, m_ref1, kp_bd2, if_neg one_ne]
  obtain ⟨n, hn, en⟩ := g.1.2.2.2.2.2.2
  by_cases h2 : a2 < nI n ∨ 4940 < a2
  · refine stepE gg 2 0 (by decide) (fun ρ q => ?_) (fun τ gt e => ?_)
    · show f_L_book ρ (nI r) a2 = _
      unfold f_L_book f_X4_book f_X4_book_L21
      rw [c_rn1 q g hr, kp_bxr, q.1.2.2.2.2.2.2.2, en]
      have hE : kh_hx (some (.inl (kh_E1, ρ))) (fun E => if E = kh_E3 then some (1 : Int32) else (if E = kh_E1 then some (2 : Int32) else (if E = kh_E2 then some (3 : Int32) else none))) (fun r : Int32 × kh_S => some ((0 : Int32), kh_up r.2 60 0 0 (0 : Int32).toNatClampNeg r.1)) = some (2, ρ) := by
        rw [kx_l]
        simp only [kE1_3, if_false, if_true]
        rfl
      by_cases h3 : a2 < nI n
      · rw [if_pos h3]; exact hE
      · rw [if_neg h3, if_neg (Int32.not_le.mpr (h2.resolve_left h3))]; exact hE
    · show f_X5_book τ (nI r) a2 = _
      unfold f_X5_book f_X5_book_L56
      rw [m_isRoom gt, if_neg (no_ix hr (by omega)), kp_bd, if_neg one_ne, e 15 (by omega) (by omega), en, m_in, if_pos h2, kp_bd, if_pos rfl, m_ref2, kp_bd2, if_neg one_ne]
  · have h3 : ¬ a2 < nI n := fun z => h2 (Or.inl z)
    have h5 : a2 ≤ 4940 := Int32.not_lt.mp (fun z => h2 (Or.inr z))
    have h0 : ¬ a2 < 0 := fun z => h3 (Int32.lt_of_lt_of_le z (nI_pos' (by omega)))
    obtain ⟨m, hm, rfl⟩ := nI_of2 (M := 4940) (n := 4940) rfl h0 h5
    by_cases hc : anyb (nearb σ P r m) B = true ∨ B = 30
    · refine stepE gg 3 0 (by decide) (fun ρ q => ?_) (fun τ gt e => ?_)
      · show f_L_book ρ (nI r) (nI m) = _
        unfold f_L_book f_X4_book
        rw [c_rn1 q g hr, kp_bxr, q.1.2.2.2.2.2.2.2, en, if_neg h3, if_pos h5]
        have hE : kh_hx (some (.inl (kh_E2, ρ))) (fun E => if E = kh_E3 then some (1 : Int32) else (if E = kh_E1 then some (2 : Int32) else (if E = kh_E2 then some (3 : Int32) else none))) (fun r : Int32 × kh_S => some ((0 : Int32), kh_up r.2 60 0 0 (0 : Int32).toNatClampNeg r.1)) = some (3, ρ) := by
          rw [kx_l]
          simp only [kE2_3, kE2_1, if_false, if_true]
          rfl
        cases hb : anyb (nearb σ P r m) B with
        | true =>
          obtain ⟨x, hx, x1, x2⟩ := anyb_first hb
          rw [c_near1 q g hr (by omega) hx x1 x2, kp_bd, if_neg (nI_pos (by omega))]
          exact hE
        | false =>
          rw [c_near0 q g hr (by omega) hb, kp_bd, if_pos (by decide), q.1.2.2.2.2.1]
          have hb2 : B = 30 := hc.resolve_left (by rw [hb]; decide)
          rw [hb2, if_neg (by decide)]
          exact hE
      · show f_X5_book τ (nI r) (nI m) = _
        unfold f_X5_book f_X5_book_L51 f_X5_book_L56
        rw [m_isRoom gt, if_neg (no_ix hr (by omega)), kp_bd, if_neg one_ne, e 15 (by omega) (by omega), en, m_in, if_neg h2, kp_bd, if_neg one_ne, m_canBook gt hr (by omega), kp_bd, anyb_cong (nearb_eqv (eqv_M e) r m) B, m_ref3, kp_bd2, if_neg one_ne]
        cases hb : anyb (nearb σ P r m) B with
        | true => rw [if_pos (by decide)]
        | false =>
          have hb2 : B = 30 := hc.resolve_left (by rw [hb]; decide)
          rw [if_neg (by decide), g.1.2.2.2.2.1, hb2, if_pos (show nI 30 = 30 from rfl)]
    · have hb : anyb (nearb σ P r m) B = false := by
        cases e : anyb (nearb σ P r m) B with
        | false => rfl
        | true => exact absurd (Or.inl e) hc
      have hB2 : B < 30 := by
        have : B ≠ 30 := fun z => hc (Or.inr z)
        omega
      have g1 := eqv_good (eqv_thr σ 0) gg
      have g2 := good_bkd g1 hr hB2 hm
      refine stepG gg g2 (by simp [bkd, up_rd]) (nI B) (fun ρ q => ?_) (fun τ gt e => ?_)
      · obtain ⟨ρ', c1, c2, c3⟩ := c_bkd q g1.1 hr hB2 (nI m)
        refine ⟨ρ', ?_, c2, c3⟩
        show f_L_book ρ (nI r) (nI m) = _
        have en1 : kh_up σ 15 0 0 0 0 15 1 0 0 = nI n := by simpa [up_rd] using en
        unfold f_L_book f_X4_book
        rw [c_rn1 q g1.1 hr, kp_bxr, q.1.2.2.2.2.2.2.2, en1, if_neg h3, if_pos h5, c_near0 q g1.1 hr (by omega) (by rw [anyb_cong (nearb_eqv (eqv_thr σ 0) r m) B]; exact hb), kp_bd, if_pos (by decide), q.1.2.2.2.2.1, if_pos (show nI B < 30 from nI_lt (b := 30) hB2 (by omega)), kh_gp_pos (ok_of q g1.1), q.1.2.2.2.2.2.1, kp_gdT (kp_in (show B < 1000 by omega) (by omega)), c1, kx_r]
      · have e1 : kM (kh_up τ 15 0 0 0 0) (kh_up σ 15 0 0 0 0) := kM_up e 15 0 0 0 rfl
        refine ⟨_, ?_, kM_bkd e1 r B (nI m), frM_bkd (frM_up (frM_rfl τ) (by omega)) r B (nI m)⟩
        show f_X5_book τ (nI r) (nI m) = _
        unfold f_X5_book
        have hx : ¬ τ 15 27 0 0 = 30 := by
          rw [gt.1.2.2.2.2.1]
          exact fun z => absurd (nI_inj (b := 30) z (by omega) (by omega)) (by omega)
        rw [m_isRoom gt, if_neg (no_ix hr (by omega)), kp_bd, if_neg one_ne, m_canBook gt hr (by omega), kp_bd, anyb_cong (nearb_eqv (eqv_M e) r m) B, if_neg hx, e 15 (by omega) (by omega), en, m_in, if_neg h2, kp_bd, if_neg one_ne, hb, if_neg (by decide)]
        exact m_bkd τ hB2 gt.1.2.2.2.2.1 (nI m)
theorem q_cancel (gg : good σ R G B P) (a1 : Int32) : stepV (fun ρ => f_L_cancel ρ a1) (fun τ => f_X5_cancel τ a1) σ R G B P := by
  have g := gg.1
  have hB := g.B30
  rcases ix_cases a1 B (by omega) with h | ⟨b, hb, rfl⟩
  · refine stepVE gg 1 (fun ρ q => ?_) (fun τ gt _ => ?_)
    · show f_L_cancel ρ a1 = _
      unfold f_L_cancel f_X4_cancel
      rw [c_bn0 q h, kp_bxl, kx_l, if_pos rfl]
      rfl
    · show f_X5_cancel τ a1 = _
      unfold f_X5_cancel f_X5_cancel_L29 f_X5_cancel_L42
      rw [m_isBooking gt, if_pos h, kp_bd, if_pos rfl, m_ref1, kp_bd2, if_neg one_ne]
  by_cases hp : σ 50 0 0 b = 0
  · have g1 := eqv_good (eqv_thr σ 0) gg
    generalize hs : kh_up σ 15 0 0 0 0 = σ1 at g1
    have t1 : σ1 15 0 0 0 = 0 := by rw [← hs]; exact up_at _ _ _ _ _ _
    have hp1 : σ1 50 0 0 b = 0 := by rw [← hs]; simpa [up_rd] using hp
    have g2 : good (kh_up σ1 50 0 0 b 2) R G B P := by
      refine ⟨⟨?_, fun r' hr' => ?_, fun r' h1 h2 => ?_, fun r' hr' => ?_, fun g' hg' => ?_, ?_, fun j hj => ?_, ?_, fun b hb => ?_⟩, fun r' hr' => ⟨?_, ?_⟩⟩
      · simpa [gS, up_rd] using g1.1.1
      · simpa [gR, up_rd, rpr_up, rtk_up] using g1.1.r r' hr'
      · simpa [up_rd] using g1.1.n r' h1 h2
      · simpa [gP, up_rd] using g1.1.p r' hr'
      · simpa [gG, up_rd] using g1.1.g g' hg'
      · simpa [gH, up_rd] using g1.1.h
      · simpa [gW, up_rd] using g1.1.w j hj
      · simpa [gD, up_rd] using g1.1.d
      · simpa [gB, up_rd] using g1.1.b b hb
      · have h := (g1.2 r' hr').1
        simpa [gQ1, up_rd, rgv_up] using h
      · have h := (g1.2 r' hr').2
        simpa [gQ2, up_rd, rgv_up, rnd_up, wk_up] using h
    refine stepGV gg g2 (by rw [rd_ne (by decide)]; exact t1) (fun ρ q => ?_) (fun τ gt e => ?_)
    · rw [hs] at q
      refine ⟨kh_up ρ 14 2 b 0 2, ?_, ?_, frC_up (frC_rfl ρ) (by omega)⟩
      · show f_L_cancel ρ (nI b) = _
        unfold f_L_cancel f_X4_cancel
        rw [c_bn1 q g1.1 hb, kp_bxr, kp_gdT (q.i14 g1.1 hb), nI_clamp (by omega), (q.b b hb).2.2.1, if_pos hp1, kx_r]
      · refine ⟨?_, ?_, fun r' hr' => ?_, fun g' hg' => ?_, fun j hj => ?_, fun b' hb' => ?_⟩
        · simpa [cS, up_rd] using q.1
        · simpa [cA, up_rd] using q.2.1
        · simpa [cR, up_rd, rnd_up, rgv_up, rpr_up, rtk_up] using q.r r' hr'
        · simpa [cG, up_rd] using q.g g' hg'
        · simpa [cW, up_rd] using q.w j hj
        · obtain ⟨w0, w1, w2, w3⟩ := q.b b' hb'
          by_cases e : b' = b
          · subst e
            exact ⟨by simpa [up_rd] using w0, by simpa [up_rd] using w1, by simp [up_rd], by simpa [up_rd] using w3⟩
          · simpa [cB, up_rd, e] using q.b b' hb'
    · have e1 : kM (kh_up τ 15 0 0 0 0) σ1 := by rw [← hs]; exact kM_up e 15 0 0 0 rfl
      refine ⟨kh_up (kh_up τ 15 0 0 0 0) 50 0 0 b 2, ?_, kM_up e1 50 0 0 b rfl, frM_up (frM_up (frM_rfl τ) (by omega)) (by omega)⟩
      show f_X5_cancel τ (nI b) = _
      unfold f_X5_cancel f_X5_cancel_L29 f_X5_cancel_L42
      rw [m_isBooking gt, if_neg (no_ix hb (by omega)), kp_bd, if_neg one_ne, kp_gdT (kp_in (show b < 30 by omega) (by omega)), nI_clamp (by omega), e 50 (by omega) (by omega), if_pos hp, m_ref0, kp_bd2, if_pos rfl, kp_gdT (kp_in (show b < 30 by omega) (by omega))]
  · refine stepVE gg 2 (fun ρ q => ?_) (fun τ gt e => ?_)
    · show f_L_cancel ρ (nI b) = _
      unfold f_L_cancel f_X4_cancel
      rw [c_bn1 q g hb, kp_bxr, kp_gdT (q.i14 g hb), nI_clamp (by omega), (q.b b hb).2.2.1, if_neg hp, kx_l]
      simp only [kE2_3, if_false, if_true]
      rfl
    · show f_X5_cancel τ (nI b) = _
      unfold f_X5_cancel f_X5_cancel_L29 f_X5_cancel_L42
      rw [m_isBooking gt, if_neg (no_ix hb (by omega)), kp_bd, if_neg one_ne, kp_gdT (kp_in (show b < 30 by omega) (by omega)), nI_clamp (by omega), e 50 (by omega) (by omega), if_neg hp, m_ref2, kp_bd2, if_neg one_ne]
/-- the first minute that no booking is near -/
def isFree (σ : kh_S) (P : Nat → Nat) (B r n0 f : Nat) : Prop := n0 ≤ f ∧ f ≤ 6000 ∧ anyb (nearb σ P r f) B = false ∧ ∀ x, n0 ≤ x → x < f → anyb (nearb σ P r x) B = true
def behind (σ : kh_S) (P : Nat → Nat) (r f b : Nat) : Bool := decide (bmN σ b + dN σ P r ≤ f)
theorem nearb_lt {r n b : Nat} (h : nearb σ P r n b = true) : n < bmN σ b + dN σ P r ∧ bmN σ b < n + dN σ P r := by
  unfold nearb at h
  simp only [Bool.and_eq_true, decide_eq_true_eq] at h
  have h3 := h.2
  unfold adiff at h3
  split at h3 <;> omega
theorem c_firstFree (q : relC ρ σ R G B P) (g : good0 σ R G B P) {r n0 : Nat} (hr : r < R) (hn : n0 ≤ 5000) : ∃ f, f_X4_firstFree ρ (nI r) (nI n0) = some (nI f) ∧ isFree σ P B r n0 f := by
  have hB := g.B30
  obtain ⟨d1, d2, d3⟩ := dst_nI g hr
  have hl : ∃ b : Int32 ⊕ Int32, kh_lp (fun a : Int32 × Int32 => f_X4_firstFree_B5 ρ (nI r) a.1 a.2) 9999 (nI n0, (0 : Int32)) = some b ∧ ∃ f, (b = .inl (nI f) ∨ b = .inr (nI f)) ∧ isFree σ P B r n0 f := by
    refine kp_lpE B (fun j a => a.2 = nI j ∧ ∃ f, a.1 = nI f ∧ n0 ≤ f ∧ f ≤ 5200 ∧ j ≤ fb_ct (behind σ P r f) B ∧ ∀ x, n0 ≤ x → x < f → anyb (nearb σ P r x) B = true) (fun j a hj h => ?_) (fun a h => ?_) 9999 (by omega) (nI n0, 0) ⟨rfl, n0, rfl, Nat.le_refl _, by omega, by omega, fun x h1 h2 => by omega⟩
    · obtain ⟨y1, y2⟩ := a
      obtain ⟨e1, f, e2, f1, f2, f3, f4⟩ := h
      dsimp only at e1 e2
      subst e1 e2
      show (∃ a', f_X4_firstFree_B5 ρ (nI r) (nI f) (nI j) = some (.inl a') ∧ _) ∨ ∃ b, f_X4_firstFree_B5 ρ (nI r) (nI f) (nI j) = some (.inr b) ∧ _
      unfold f_X4_firstFree_B5
      rw [q.1.2.2.2.2.1, if_neg (nI_ge hj (by omega))]
      cases hb : anyb (nearb σ P r f) B with
      | false =>
        rw [c_near0 q g hr (by omega) hb, kp_bd, if_pos (by decide)]
        exact Or.inr ⟨_, rfl, f, Or.inl rfl, f1, by omega, hb, f4⟩
      | true =>
        obtain ⟨x, hx, x1, x2⟩ := anyb_first hb
        obtain ⟨m1, m2⟩ := bm_nI g hx
        obtain ⟨l1, l2⟩ := nearb_lt x1
        rw [c_near1 q g hr (by omega) hx x1 x2, kp_bd, if_neg (nI_pos (by omega)), kp_gdT (q.i14 g hx), c_dist q g hr, kp_bd, nI_clamp (by omega), (q.b x hx).2.1, m1, d1, nI_add, nI_1]
        refine Or.inl ⟨_, rfl, rfl, bmN σ x + dN σ P r, rfl, by omega, by omega, ?_, fun y h1 h2 => ?_⟩
        · have h9 : fb_ct (behind σ P r f) B < fb_ct (behind σ P r (bmN σ x + dN σ P r)) B := by
            refine ct_lt (fun k hk hp => ?_) ⟨x, hx, ?_, ?_⟩
            · unfold behind at hp ⊢
              have := of_decide_eq_true hp
              exact decide_eq_true (by omega)
            · unfold behind
              exact decide_eq_false (by omega)
            · unfold behind
              exact decide_eq_true (Nat.le_refl _)
          omega
        · by_cases h3 : y < f
          · exact f4 y h1 h3
          · refine anyb_iff.mpr ⟨x, hx, ?_⟩
            unfold nearb at x1 ⊢
            simp only [Bool.and_eq_true] at x1 ⊢
            refine ⟨x1.1, decide_eq_true ?_⟩
            unfold adiff
            split <;> omega
    · obtain ⟨y1, y2⟩ := a
      obtain ⟨e1, f, e2, f1, f2, f3, f4⟩ := h
      dsimp only at e1 e2
      subst e1 e2
      refine ⟨.inr (nI f), ?_, f, Or.inr rfl, f1, by omega, ?_, f4⟩
      · show f_X4_firstFree_B5 ρ (nI r) (nI f) (nI B) = _
        unfold f_X4_firstFree_B5
        rw [q.1.2.2.2.2.1, if_pos (nI_le (Nat.le_refl _) (by omega))]
      · cases hb : anyb (nearb σ P r f) B with
        | false => rfl
        | true =>
          obtain ⟨x, hx, x1⟩ := anyb_iff.mp hb
          obtain ⟨l1, l2⟩ := nearb_lt x1
          have h9 := ct_full f3 x hx
          unfold behind at h9
          have := of_decide_eq_true h9
          omega
  obtain ⟨b, e, f, hb, hf⟩ := hl
  refine ⟨f, ?_, hf⟩
  unfold f_X4_firstFree
  rw [e, kp_bd]
  rcases hb with rfl | rfl
  · rfl
  · rfl
theorem m_offer (gt : good0 τ R G B P) {r n0 f : Nat} (hr : r < R) (hn : n0 ≤ 5000) (hf : isFree τ P B r n0 f) : f_X5_offer_L53 τ (nI r) (nI n0) = some (if f ≤ 4940 then nI f else -1, τ) := by
  obtain ⟨f1, f2, f3, f4⟩ := hf
  have hstep : ∀ y, n0 ≤ y → y < f → y ≤ 4940 → f_X5_offer_B54 τ (nI r) (nI y) = some (.inl (nI (y + 1))) := by
    intro y h1 h2 h3
    unfold f_X5_offer_B54
    rw [if_neg (show ¬ 4940 < nI y from nI_nlt (a := 4940) (by omega) (by omega)), m_canBook gt hr (by omega), kp_bd, f4 y h1 h2, if_pos rfl, if_pos rfl, nI_1]
  unfold f_X5_offer_L53
  by_cases h : f ≤ 4940
  · have hl : kh_lp (fun a : Int32 => f_X5_offer_B54 τ (nI r) a) 9999 (nI n0) = some (.inl (nI f)) := by
      have := kp_lp (f := fun a : Int32 => f_X5_offer_B54 τ (nI r) a) (b := Sum.inl (nI f)) (f - n0) (fun j => nI (n0 + j)) (fun j hj => hstep (n0 + j) (by omega) (by omega) (by omega)) ?_ 9999 (by omega)
      · exact this
      · show f_X5_offer_B54 τ (nI r) (nI (n0 + (f - n0))) = _
        rw [show n0 + (f - n0) = f by omega]
        unfold f_X5_offer_B54
        rw [if_neg (show ¬ 4940 < nI f from nI_nlt (a := 4940) (by omega) (by omega)), m_canBook gt hr (by omega), kp_bd, f3, if_neg (by decide)]
    rw [hl, kp_bd, if_pos h]
    rfl
  · by_cases h2 : n0 ≤ 4940
    · have hl : kh_lp (fun a : Int32 => f_X5_offer_B54 τ (nI r) a) 9999 (nI n0) = some (.inr ()) := by
        have := kp_lp (f := fun a : Int32 => f_X5_offer_B54 τ (nI r) a) (b := Sum.inr ()) (4941 - n0) (fun j => nI (n0 + j)) (fun j hj => hstep (n0 + j) (by omega) (by omega) (by omega)) ?_ 9999 (by omega)
        · exact this
        · show f_X5_offer_B54 τ (nI r) (nI (n0 + (4941 - n0))) = _
          rw [show n0 + (4941 - n0) = 4941 by omega]
          unfold f_X5_offer_B54
          rw [if_pos (by decide)]
      rw [hl, kp_bd, if_neg h]
      rfl
    · have hl : kh_lp (fun a : Int32 => f_X5_offer_B54 τ (nI r) a) 9999 (nI n0) = some (.inr ()) := by
        refine kp_lp 0 (fun _ => nI n0) (fun j hj => by omega) ?_ 9999 (by omega)
        show f_X5_offer_B54 τ (nI r) (nI n0) = _
        unfold f_X5_offer_B54
        rw [if_pos (show 4940 < nI n0 from nI_lt (a := 4940) (by omega) (by omega))]
      rw [hl, kp_bd, if_neg h]
      rfl
theorem isFree_eqv (h : eqv σ τ) {r n0 f : Nat} (hf : isFree σ P B r n0 f) : isFree τ P B r n0 f := by
  obtain ⟨f1, f2, f3, f4⟩ := hf
  exact ⟨f1, f2, by rw [anyb_cong (nearb_eqv h r f) B]; exact f3, fun x h1 h2 => by rw [anyb_cong (nearb_eqv h r x) B]; exact f4 x h1 h2⟩
theorem least_of {p : Nat → Prop} (n : Nat) (h : p n) : ∃ m, m ≤ n ∧ p m ∧ ∀ j, j < m → ¬ p j := by
  induction n using Nat.strongRecOn with
  | ind n ih =>
    by_cases e : ∃ j, j < n ∧ p j
    · obtain ⟨j, hj, hp⟩ := e
      obtain ⟨m, h1, h2, h3⟩ := ih j hj hp
      exact ⟨m, by omega, h2, h3⟩
    · exact ⟨n, Nat.le_refl _, h, fun j hj hp => e ⟨j, hj, hp⟩⟩
theorem isFree_ex (g : good0 σ R G B P) {r n0 : Nat} (hr : r < R) (hn : n0 ≤ 5000) : ∃ f, isFree σ P B r n0 f := by
  obtain ⟨d1, d2, d3⟩ := dst_nI g hr
  obtain ⟨m, h1, h2, h3⟩ := least_of (p := fun x => n0 ≤ x ∧ anyb (nearb σ P r x) B = false) 5500 ⟨by omega, by
    cases hb : anyb (nearb σ P r 5500) B with
    | false => rfl
    | true =>
      obtain ⟨x, hx, x1⟩ := anyb_iff.mp hb
      obtain ⟨l1, l2⟩ := nearb_lt x1
      have := (bm_nI g hx).2
      omega⟩
  refine ⟨m, h2.1, by omega, h2.2, fun x hx1 hx2 => ?_⟩
  cases hb : anyb (nearb σ P r x) B with
  | true => rfl
  | false => exact absurd ⟨hx1, hb⟩ (h3 x hx2)
theorem q_offer (gg : good σ R G B P) (a1 a2 : Int32) : stepOK (fun ρ => f_L_offer ρ a1 a2) (fun τ => f_X5_offer τ a1 a2) σ R G B P := by
  have g := gg.1
  have h4 := g.R4
  have hB := g.B30
  rcases ix_cases a1 R (by omega) with h | ⟨r, hr, rfl⟩
  · refine stepE gg 1 0 (by decide) (fun ρ q => ?_) (fun τ gt _ => ?_)
    · show f_L_offer ρ a1 a2 = _
      unfold f_L_offer f_X4_offer
      rw [c_rn0 q h, kp_bxl, kpt_l, kx_l, if_pos rfl]
      rfl
    · show f_X5_offer τ a1 a2 = _
      unfold f_X5_offer f_X5_offer_L29
      rw [m_isRoom gt, if_pos h, kp_bd, if_pos rfl, m_ref1, kp_bd2, if_neg one_ne]
  by_cases h2 : a2 < 0 ∨ 4940 < a2
  · refine stepE gg 2 0 (by decide) (fun ρ q => ?_) (fun τ gt e => ?_)
    · show f_L_offer ρ (nI r) a2 = _
      unfold f_L_offer f_X4_offer f_X4_offer_L17
      rw [c_rn1 q g hr, kp_bxr]
      have hE : kh_hx (kh_pt (some (.inl kh_E1)) ρ) (fun E => if E = kh_E3 then some (1 : Int32) else (if E = kh_E1 then some (2 : Int32) else none)) (fun r : Int32 × kh_S => some ((0 : Int32), kh_up r.2 60 0 0 (0 : Int32).toNatClampNeg r.1)) = some (2, ρ) := by
        rw [kpt_l, kx_l]
        simp only [kE1_3, if_false, if_true]
        rfl
      by_cases h3 : a2 < 0
      · rw [if_pos h3]; exact hE
      · rw [if_neg h3, if_neg (Int32.not_le.mpr (h2.resolve_left h3))]; exact hE
    · show f_X5_offer τ (nI r) a2 = _
      unfold f_X5_offer f_X5_offer_L29
      rw [m_isRoom gt, if_neg (no_ix hr (by omega)), kp_bd, if_neg one_ne, m_in, if_pos h2, kp_bd, if_pos rfl, m_ref2, kp_bd2, if_neg one_ne]
  · have h0 : ¬ a2 < 0 := fun z => h2 (Or.inl z)
    have h5 : a2 ≤ 4940 := Int32.not_lt.mp (fun z => h2 (Or.inr z))
    obtain ⟨m, hm, rfl⟩ := nI_of2 (M := 4940) (n := 4940) rfl h0 h5
    obtain ⟨n, hn, en⟩ := g.1.2.2.2.2.2.2
    have hx : (if nI m < nI n then nI n else nI m) = nI (if m < n then n else m) := by
      by_cases z : m < n
      · rw [if_pos z, if_pos (nI_lt z (by omega))]
      · rw [if_neg z, if_neg (nI_nlt (by omega) (by omega))]
    have hmax : (if m < n then n else m) ≤ 5000 := by split <;> omega
    generalize hw : (if m < n then n else m) = w at hx hmax
    have hy : (if nI m ≤ nI n then f_X5_offer_L53 (kh_up σ 15 0 0 0 0) (nI r) (nI n) else f_X5_offer_L53 (kh_up σ 15 0 0 0 0) (nI r) (nI m)) = f_X5_offer_L53 (kh_up σ 15 0 0 0 0) (nI r) (nI w) := by
      by_cases z : m ≤ n
      · rw [if_pos (nI_le z (by omega)), ← hw]
        by_cases z2 : m < n
        · rw [if_pos z2]
        · rw [if_neg z2, show m = n by omega]
      · rw [if_neg (nI_ge (by omega) (by omega)), ← hw, if_neg (by omega)]
    have hy2 : ∀ τ : kh_S, (if nI m ≤ nI n then f_X5_offer_L53 τ (nI r) (nI n) else f_X5_offer_L53 τ (nI r) (nI m)) = f_X5_offer_L53 τ (nI r) (nI w) := by
      intro τ
      by_cases z : m ≤ n
      · rw [if_pos (nI_le z (by omega)), ← hw]
        by_cases z2 : m < n
        · rw [if_pos z2]
        · rw [if_neg z2, show m = n by omega]
      · rw [if_neg (nI_ge (by omega) (by omega)), ← hw, if_neg (by omega)]
    by_cases hf : ∃ f, isFree σ P B r w f
    · obtain ⟨f, hf⟩ := hf
      have huniq : ∀ f', isFree σ P B r w f' → f' = f := by
        intro f' hf'
        rcases Nat.lt_trichotomy f' f with h | h | h
        · have := hf.2.2.2 f' hf'.1 h
          rw [hf'.2.2.1] at this
          cases this
        · exact h
        · have := hf'.2.2.2 f hf.1 h
          rw [hf.2.2.1] at this
          cases this
      refine stepQ gg (if f ≤ 4940 then nI f else -1) (fun ρ q => ?_) (fun τ gt e => ?_)
      · show f_L_offer ρ (nI r) (nI m) = _
        obtain ⟨f', c1, c2⟩ := c_firstFree q g hr hmax
        obtain rfl := huniq f' c2
        unfold f_L_offer f_X4_offer f_X4_offer_L56
        rw [c_rn1 q g hr, kp_bxr, if_neg h0, if_pos h5, q.1.2.2.2.2.2.2.2, en, hx, c1, kp_bd]
        have h6 := c2.2.1
        by_cases z : f' ≤ 4940
        · rw [if_neg (show ¬ 4940 < nI f' from nI_nlt (a := 4940) (by omega) (by omega)), if_pos z, kpt_r, kx_r]
        · rw [if_pos (show 4940 < nI f' from nI_lt (a := 4940) (by omega) (by omega)), if_neg z, kpt_r, kx_r]
      · show f_X5_offer τ (nI r) (nI m) = _
        have gt2 := eqv_good0 (eqv_thr τ 0) gt
        have en2 : kh_up τ 15 0 0 0 0 15 1 0 0 = nI n := by
          have h := e 15 (by omega) (by omega)
          simpa [up_rd, h] using en
        unfold f_X5_offer f_X5_offer_L29
        rw [m_isRoom gt, if_neg (no_ix hr (by omega)), kp_bd, if_neg one_ne, m_in, if_neg h2, kp_bd, if_neg one_ne, m_ref0, kp_bd2, if_pos rfl, en2, hy2, m_offer gt2 hr hmax (isFree_eqv (eqv_tr (eqv_M e) (eqv_thr τ 0)) hf)]
    · refine absurd ?_ hf
      exact isFree_ex g hr hmax
end OFFER
