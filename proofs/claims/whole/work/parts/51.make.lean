/-! room, puzzle -/
def rmd (σ : kh_S) (R : Nat) (x : Int32) : kh_S := kh_up (kh_up (kh_up σ 24 0 0 R x) 29 0 0 R (-1)) 15 3 0 0 (nI (R + 1))
section MAKE
variable {ρ σ τ : kh_S} {R G B : Nat} {P : Nat → Nat}
theorem rd_mkR {n : Nat} (e : kh_n ρ 6 = n) (a b : Int32) (k s i j : Nat) : kh_mkR ρ a b k s i j = if i = n ∧ 6 ≤ k ∧ k ≤ 10 then (if k = 6 then (if s = 0 then a else if s = 1 then b else if s = 7 then 5 else if s = 12 then -1 else 0) else 0) else if k = 61 ∧ s = 0 ∧ i = 0 ∧ j = 0 then ρ 61 0 0 0 + 1 else ρ k s i j := by
  unfold kh_mkR
  rw [e]
theorem inP_0 (p : Nat) : inP 0 p := fun i hi h => by rw [b_0] at h; cases h
theorem good_rmd (gg : good σ R G B P) (hR : R < 4) (x : Int32) : good (rmd σ R x) (R + 1) G B P := by
  have g := gg.1
  obtain ⟨n0, n1, n2, n3, n4⟩ := g.n R (Nat.le_refl _) hR
  refine ⟨⟨?_, fun r' hr' => ?_, fun r' h1 h2 => ?_, fun r' hr' => ?_, fun g' hg' => ?_, ?_, fun j hj => ?_, ?_, fun b hb => ?_⟩, fun r' hr' => ?_⟩
  · obtain ⟨a1, a2, a3, a4, a5, a6, a7⟩ := g.1
    refine ⟨?_, by omega, ?_, a4, ?_, a6, ?_⟩
    · simp [rmd, up_rd]
    · simpa [rmd, up_rd] using a3
    · simpa [rmd, up_rd] using a5
    · simpa [rmd, up_rd] using a7
  · by_cases e : r' = R
    · subst e
      refine ⟨?_, by omega, fun k hk => by omega, ?_, ?_⟩
      · rw [n0]; simpa [rmd, up_rd, nI_0] using n1
      · have z : rmd σ r' x 27 0 0 r' = 0 := by simpa [rmd, up_rd] using n3
        rw [z]; exact inP_0 _
      · have z : rmd σ r' x 28 0 0 r' = 0 := by simpa [rmd, up_rd] using n4
        rw [z]; exact inP_0 _
    · simpa [gR, rmd, up_rd, rpr_up, rtk_up] using g.r r' (by omega)
  · simpa [rmd, up_rd] using g.n r' (by omega) h2
  · by_cases e : r' = R
    · subst e
      refine Or.inr ⟨?_, ?_⟩
      · have z : rmd σ r' x 26 0 0 r' = 0 := by simpa [rmd, up_rd] using n2
        rw [z]; decide
      · simp [rmd, up_rd]
    · simpa [gP, rmd, up_rd, e] using g.p r' (by omega)
  · obtain ⟨r', hr', a1, a2, a3⟩ := g.g g' hg'
    have e : ¬ r' = R := by omega
    refine ⟨r', by omega, ?_, ?_, ?_⟩
    · simpa [rmd, up_rd] using a1
    · simpa [rmd, up_rd] using a2
    · simpa [rmd, up_rd, e] using a3
  · simpa [gH, rmd, up_rd] using g.h
  · obtain ⟨a0, a⟩ := g.w j hj
    refine ⟨by simpa [rmd, up_rd] using a0, ?_⟩
    rcases a with a | ⟨r', hr', a⟩
    · exact Or.inl (by simpa [rmd, up_rd] using a)
    · exact Or.inr ⟨r', by omega, by simpa [rmd, up_rd] using a⟩
  · simpa [gD, rmd, up_rd] using g.d
  · obtain ⟨⟨r', hr', a⟩, b⟩ := g.b b hb
    exact ⟨⟨r', by omega, by simpa [rmd, up_rd] using a⟩, by simpa [rmd, up_rd] using b⟩
  · by_cases e : r' = R
    · subst e
      have z : ¬ rmd σ r' x 26 0 0 r' = 1 := by
        have z : rmd σ r' x 26 0 0 r' = 0 := by simpa [rmd, up_rd] using n2
        rw [z]; decide
      exact ⟨fun h => absurd h z, fun h => absurd h z⟩
    · obtain ⟨q1, q2⟩ := gg.2 r' (by omega)
      have w : wk (rmd σ R x) r' = wk σ r' := by
        funext k
        simp [wk, rmd, up_rd, rpr_up]
      refine ⟨?_, ?_⟩
      · simpa [gQ1, rmd, up_rd, rgv_up, e] using q1
      · unfold gQ2
        rw [w]
        simpa [gQ2, rmd, up_rd, rgv_up, rnd_up, e] using q2
theorem c_rmd (q : relC ρ σ R G B P) (g : good0 σ R G B P) (hR : R < 4) (x : Int32) : ∃ ρ', f_X4_room_L54 ρ (kh_mkR ρ (nI R) x) (nI R) (nI R) (nI R) = some (.inr (nI R, ρ')) ∧ relC ρ' (rmd σ R x) (R + 1) G B P ∧ frC ρ ρ' := by
  have hc : (nI R).toNatClampNeg = R := nI_clamp (by omega)
  have e6 := q.n6 g
  obtain ⟨n0, n1, n2, n3, n4⟩ := g.n R (Nat.le_refl _) hR
  have e61 : kh_mkR ρ (nI R) x 61 0 0 0 = nI (R + 1) := by
    rw [rd_mkR e6]
    simp [q.1.2.1, nI_1]
  have en : kh_n (kh_mkR ρ (nI R) x) 6 = R + 1 := by
    show (kh_mkR ρ (nI R) x 61 0 0 0).toNatClampNeg = R + 1
    rw [e61, nI_clamp (by omega)]
  have e1 : (kh_up (kh_mkR ρ (nI R) x) 1 0 0 R (nI R)) 0 1 0 0 = nI R := by
    rw [rd_ne (by decide), rd_mkR e6]
    simp [q.1.1]
  unfold f_X4_room_L54
  rw [kp_gdT (kp_in hR (by omega)), en, kp_gdT (kp_in (by omega) (by omega)), hc, e1, nI_1]
  refine ⟨_, rfl, ?_, fun k h1 h2 => ?_⟩
  · refine ⟨?_, ?_, fun r' hr' => ?_, fun g' hg' => ?_, fun j hj => ?_, fun b hb => ?_⟩
    · obtain ⟨a1, a2, a3, a4, a5, a6, a7, a8⟩ := q.1
      refine ⟨?_, ?_, ?_, ?_, ?_, ?_, ?_, ?_⟩
      · simp [up_rd]
      · rw [rd_ne (by decide), rd_ne (by decide), e61]
      · simpa [up_rd, rd_mkR e6] using a3
      · simpa [up_rd, rd_mkR e6] using a4
      · simpa [up_rd, rd_mkR e6] using a5
      · simpa [up_rd, rd_mkR e6] using a6
      · simpa [rmd, up_rd, rd_mkR e6] using a7
      · simpa [rmd, up_rd, rd_mkR e6] using a8
    · obtain ⟨a1, a2, a3, a4⟩ := q.2.1
      refine ⟨fun j => ?_, fun j => ?_, fun j => ?_, fun j => ?_⟩
      · by_cases e : j = R
        · subst e; simp [up_rd]
        · have h := a1 j
          have z : (j < R + 1) ↔ (j < R) := by omega
          simp only [z]
          simpa [up_rd, rd_mkR e6, e] using h
      · simpa [up_rd, rd_mkR e6] using a2 j
      · simpa [up_rd, rd_mkR e6] using a3 j
      · simpa [up_rd, rd_mkR e6] using a4 j
    · by_cases e : r' = R
      · subst e
        refine ⟨?_, ?_, ?_, ?_, ?_, ?_, ?_, ?_, fun k hk => by omega⟩
        · simp [up_rd, rd_mkR e6]
        · simp [rmd, up_rd, rd_mkR e6]
        · rw [n0]; simp [up_rd, rd_mkR e6, nI_0]
        · rw [n0]; simp [up_rd, rd_mkR e6, gsum]
        · simp [rmd, up_rd, rd_mkR e6, n2]
        · simp [rmd, up_rd, rd_mkR e6, n3]
        · simp [rmd, up_rd, rd_mkR e6, n4]
        · simp [rmd, up_rd, rd_mkR e6]
      · simpa [cR, rmd, up_rd, rnd_up, rgv_up, rpr_up, rtk_up, rd_mkR e6, e] using q.r r' (by omega)
    · simpa [cG, rmd, up_rd, rd_mkR e6] using q.g g' hg'
    · obtain ⟨w0, w1, w2, w3⟩ := q.w j hj
      refine ⟨?_, ?_, ?_, fun r hr h => ?_⟩
      · simpa [rmd, up_rd, rd_mkR e6] using w0
      · simpa [rmd, up_rd, rd_mkR e6] using w1
      · simpa [rmd, up_rd, rd_mkR e6] using w2
      · have h' : σ 43 0 0 j = nI r := by simpa [rmd, up_rd] using h
        have e : ¬ r = R := by
          intro e; subst e
          rcases (g.w j hj).2 with ⟨z, -⟩ | ⟨r', hr', z, -⟩
          · exact nI_m1 (by omega) (h'.symm.trans z)
          · have := nI_inj (h'.symm.trans z) (by omega) (by omega)
            omega
        simpa [rmd, up_rd, rd_mkR e6, e] using w3 r hr h'
    · simpa [cB, rmd, up_rd, rd_mkR e6] using q.b b hb
  · rw [up_k (by omega), up_k (by omega)]
    funext s i j
    rw [rd_mkR e6, if_neg (by omega), if_neg (by omega)]
theorem q_room (gg : good σ R G B P) (a1 : Int32) : stepOK (fun ρ => f_L_room ρ a1) (fun τ => f_X5_room τ a1) σ R G B P := by
  have g := gg.1
  have h4 := g.R4
  by_cases h : a1 < 0 ∨ 4095 < a1
  · refine stepE gg 1 0 (by decide) (fun ρ q => ?_) (fun τ gt _ => ?_)
    · show f_L_room ρ a1 = _
      unfold f_L_room f_X4_room
      rw [c_areThings, if_pos h, kp_bd, if_pos rfl, kx_l, if_pos rfl]
      rfl
    · show f_X5_room τ a1 = _
      unfold f_X5_room f_X5_room_L29
      rw [m_in, if_pos h, kp_bd, if_pos rfl, m_ref1, kp_bd2, if_neg one_ne]
  by_cases hR : R = 4
  · subst hR
    refine stepE gg 2 0 (by decide) (fun ρ q => ?_) (fun τ gt _ => ?_)
    · show f_L_room ρ a1 = _
      unfold f_L_room f_X4_room
      rw [c_areThings, if_neg h, kp_bd, if_neg one_ne, q.1.1, if_neg (show ¬ nI 4 < 4 by decide), kx_l]
      simp only [kE2_1, if_false, if_true]
      rfl
    · show f_X5_room τ a1 = _
      unfold f_X5_room f_X5_room_L29
      rw [m_in, if_neg h, kp_bd, if_neg one_ne, gt.1.1, if_pos (show nI 4 = 4 from rfl), m_ref2, kp_bd2, if_neg one_ne]
  · have hR4 : R < 4 := by omega
    have g1 := eqv_good (eqv_thr σ 0) gg
    refine stepG gg (good_rmd g1 hR4 a1) (by simp [rmd, up_rd]) (nI R) (fun ρ q => ?_) (fun τ gt e => ?_)
    · obtain ⟨ρ', c1, c2, c3⟩ := c_rmd q g1.1 hR4 a1
      refine ⟨ρ', ?_, c2, c3⟩
      show f_L_room ρ a1 = _
      unfold f_L_room f_X4_room
      rw [c_areThings, if_neg h, kp_bd, if_neg one_ne, q.1.1, if_pos (show nI R < 4 from nI_lt (b := 4) hR4 (by omega)), kh_gp_pos (ok_of q g1.1), q.1.2.1, kp_gdT (kp_in (show R < 1000 by omega) (by omega)), c1, kx_r]
    · have e1 : kM (kh_up τ 15 0 0 0 0) (kh_up σ 15 0 0 0 0) := kM_up e 15 0 0 0 rfl
      refine ⟨rmd (kh_up τ 15 0 0 0 0) R a1, ?_, kM_up (kM_up (kM_up e1 24 0 0 R rfl) 29 0 0 R rfl) 15 3 0 0 rfl, frM_up (frM_up (frM_up (frM_up (frM_rfl τ) (by omega)) (by omega)) (by omega)) (by omega)⟩
      show f_X5_room τ a1 = _
      have hx : ¬ nI R = 4 := fun z => hR (nI_inj (b := 4) z (by omega) (by omega))
      have h0 : kh_up τ 15 0 0 0 0 15 3 0 0 = nI R := by simpa [up_rd] using gt.1.1
      have hc : (nI R).toNatClampNeg = R := nI_clamp (by omega)
      unfold f_X5_room f_X5_room_L29
      rw [m_in, if_neg h, kp_bd, if_neg one_ne, gt.1.1, if_neg hx, m_ref0, kp_bd2, if_pos rfl]
      generalize kh_up τ 15 0 0 0 0 = τ0 at h0 ⊢
      have h1 : (kh_up τ0 24 0 0 R a1) 15 3 0 0 = nI R := by rw [rd_ne (by decide), h0]
      have h2 : (kh_up (kh_up τ0 24 0 0 R a1) 29 0 0 R (-1)) 15 3 0 0 = nI R := by rw [rd_ne (by decide), h1]
      rw [h0, hc, kp_gdT (kp_in hR4 (by omega)), h1, hc, kp_gdT (kp_in hR4 (by omega)), h2, up_at, nI_1, nI_sub1]
      rfl
/-! a puzzle is put into a room -/
def pzP (P : Nat → Nat) (r : Nat) : Nat → Nat := fun r' => if r' = r then P r + 1 else P r'
def pzd (σ : kh_S) (r p : Nat) (nd gv pr mn : Int32) : kh_S := kh_up (kh_up (kh_up (kh_up (kh_up σ 30 0 0 (8 * r + p) nd) 31 0 0 (8 * r + p) gv) 32 0 0 (8 * r + p) pr) 33 0 0 (8 * r + p) mn) 25 0 0 r (nI (p + 1))
theorem pz_ne {r r' p k : Nat} (hp : p < 8) (hk : k < 8) (h : ¬ (r' = r ∧ k = p)) : ¬ 8 * r' + k = 8 * r + p := by omega
theorem pzd_nd (σ : kh_S) (r p : Nat) (nd gv pr mn : Int32) (r' k : Nat) : rnd (pzd σ r p nd gv pr mn) r' k = if 8 * r' + k = 8 * r + p then nd else rnd σ r' k := by simp [rnd, pzd, up_rd]
theorem pzd_gv (σ : kh_S) (r p : Nat) (nd gv pr mn : Int32) (r' k : Nat) : rgv (pzd σ r p nd gv pr mn) r' k = if 8 * r' + k = 8 * r + p then gv else rgv σ r' k := by simp [rgv, pzd, up_rd]
theorem pzd_pr (σ : kh_S) (r p : Nat) (nd gv pr mn : Int32) (r' k : Nat) : rpr (pzd σ r p nd gv pr mn) r' k = if 8 * r' + k = 8 * r + p then pr else rpr σ r' k := by simp [rpr, pzd, up_rd]
theorem pzd_tk (σ : kh_S) (r p : Nat) (nd gv pr mn : Int32) (r' k : Nat) : rtk (pzd σ r p nd gv pr mn) r' k = if 8 * r' + k = 8 * r + p then mn else rtk σ r' k := by simp [rtk, pzd, up_rd]
theorem pzd_ne {σ : kh_S} {r p : Nat} {nd gv pr mn : Int32} {k : Nat} (h : k ≠ 30 ∧ k ≠ 31 ∧ k ≠ 32 ∧ k ≠ 33 ∧ k ≠ 25) : pzd σ r p nd gv pr mn k = σ k := by
  unfold pzd
  rw [up_k h.2.2.2.2, up_k h.2.2.2.1, up_k h.2.2.1, up_k h.2.1, up_k h.1]
theorem gsum_cong {f f' : Nat → Int32} : ∀ {p : Nat}, (∀ k, k < p → f k = f' k) → gsum f p = gsum f' p
  | 0, _ => rfl
  | p + 1, h => by
    show gsum f p + f p = gsum f' p + f' p
    rw [gsum_cong (fun k hk => h k (by omega)), h p (by omega)]
theorem good_pzd (gg : good σ R G B P) {r : Nat} (hr : r < R) (hp : P r < 8) (h26 : σ 26 0 0 r = 0) (nd gv pr mn : Int32) (hpr : pr = -1 ∨ ∃ q, q < 8 ∧ pr = nI q) (hmn : ∃ m, 1 ≤ m ∧ m ≤ 10 ∧ mn = nI m) : good (pzd σ r (P r) nd gv pr mn) R G B (pzP P r) := by
  have g := gg.1
  have h4 := g.R4
  have e15 : pzd σ r (P r) nd gv pr mn 15 = σ 15 := pzd_ne (by omega)
  have e26 : pzd σ r (P r) nd gv pr mn 26 = σ 26 := pzd_ne (by omega)
  have e27 : pzd σ r (P r) nd gv pr mn 27 = σ 27 := pzd_ne (by omega)
  have e28 : pzd σ r (P r) nd gv pr mn 28 = σ 28 := pzd_ne (by omega)
  have e29 : pzd σ r (P r) nd gv pr mn 29 = σ 29 := pzd_ne (by omega)
  have e35 : pzd σ r (P r) nd gv pr mn 35 = σ 35 := pzd_ne (by omega)
  have e36 : pzd σ r (P r) nd gv pr mn 36 = σ 36 := pzd_ne (by omega)
  have e37 : pzd σ r (P r) nd gv pr mn 37 = σ 37 := pzd_ne (by omega)
  have e38 : pzd σ r (P r) nd gv pr mn 38 = σ 38 := pzd_ne (by omega)
  have e40 : pzd σ r (P r) nd gv pr mn 40 = σ 40 := pzd_ne (by omega)
  have e41 : pzd σ r (P r) nd gv pr mn 41 = σ 41 := pzd_ne (by omega)
  have e42 : pzd σ r (P r) nd gv pr mn 42 = σ 42 := pzd_ne (by omega)
  have e43 : pzd σ r (P r) nd gv pr mn 43 = σ 43 := pzd_ne (by omega)
  have e44 : pzd σ r (P r) nd gv pr mn 44 = σ 44 := pzd_ne (by omega)
  have e45 : pzd σ r (P r) nd gv pr mn 45 = σ 45 := pzd_ne (by omega)
  have e46 : pzd σ r (P r) nd gv pr mn 46 = σ 46 := pzd_ne (by omega)
  have e48 : pzd σ r (P r) nd gv pr mn 48 = σ 48 := pzd_ne (by omega)
  have e49 : pzd σ r (P r) nd gv pr mn 49 = σ 49 := pzd_ne (by omega)
  have hP : ∀ r', P r' ≤ pzP P r r' := by
    intro r'
    unfold pzP
    split
    · rename_i e; subst e; omega
    · exact Nat.le_refl _
  have hPne : ∀ r', r' ≠ r → pzP P r r' = P r' := fun r' e => if_neg e
  refine ⟨⟨?_, fun r' hr' => ?_, fun r' h1 h2 => ?_, fun r' hr' => ?_, fun g' hg' => ?_, ?_, fun j hj => ?_, ?_, fun b hb => ?_⟩, fun r' hr' => ?_⟩
  · have h := g.1
    unfold gS at h ⊢
    rw [e15]; exact h
  · obtain ⟨c1, c2, c3, c4, c5⟩ := g.r r' hr'
    refine ⟨?_, ?_, fun k hk => ?_, ?_, ?_⟩
    · by_cases e : r' = r
      · subst e; simp [pzd, pzP, up_rd]
      · rw [hPne r' e]; simpa [pzd, up_rd, e] using c1
    · by_cases e : r' = r
      · subst e; simp only [pzP, if_true]; omega
      · rw [hPne r' e]; exact c2
    · rw [pzd_pr, pzd_tk]
      by_cases e : r' = r ∧ k = P r
      · obtain ⟨rfl, rfl⟩ := e
        rw [if_pos rfl, if_pos rfl]
        exact ⟨hpr, hmn⟩
      · have hk8 : k < P r' := by
          by_cases e2 : r' = r
          · subst e2
            have : k < P r' + 1 := by simpa [pzP] using hk
            omega
          · rw [hPne r' e2] at hk; exact hk
        have hz := pz_ne (p := P r) (k := k) (r := r) (r' := r') hp (by omega) e
        rw [if_neg hz, if_neg hz]
        exact c3 k hk8
    · rw [e27]; exact fun i hi h => Nat.lt_of_lt_of_le (c4 i hi h) (hP r')
    · rw [e28]; exact fun i hi h => Nat.lt_of_lt_of_le (c5 i hi h) (hP r')
  · have e : ¬ r' = r := by omega
    rw [hPne r' e, e26, e27, e28]
    have h := g.n r' h1 h2
    refine ⟨h.1, ?_, h.2.2⟩
    simpa [pzd, up_rd, e] using h.2.1
  · have h := g.p r' hr'
    unfold gP at h ⊢
    rw [e26, e29, e35, e36]; exact h
  · obtain ⟨r', hr', a1, a2, a3⟩ := g.g g' hg'
    refine ⟨r', hr', by rw [e36]; exact a1, ?_, by rw [e35, e26, e29]; exact a3⟩
    rw [e38]; exact fun i hi h => Nat.lt_of_lt_of_le (a2 i hi h) (hP r')
  · have h := g.h
    unfold gH at h ⊢
    rw [e40, e41, e42]; exact h
  · have h := g.w j hj
    unfold gW at h ⊢
    rw [e43, e44, e45, e46, e26]
    obtain ⟨a0, a⟩ := h
    refine ⟨a0, ?_⟩
    rcases a with a | ⟨r', hr', b1, b2, b3, b4⟩
    · exact Or.inl a
    · refine Or.inr ⟨r', hr', b1, b2, b3, ?_⟩
      rcases b4 with b4 | ⟨p, hp, b4⟩
      · exact Or.inl b4
      · exact Or.inr ⟨p, Nat.lt_of_lt_of_le hp (hP r'), b4⟩
  · have h := g.d
    unfold gD at h ⊢
    rw [e43]; exact h
  · have h := g.b b hb
    unfold gB at h ⊢
    rw [e48, e49]; exact h
  · by_cases e : r' = r
    · subst e
      have z : ¬ pzd σ r' (P r') nd gv pr mn 26 0 0 r' = 1 := by rw [e26, h26]; decide
      exact ⟨fun h => absurd h z, fun h => absurd h z⟩
    · obtain ⟨q1, q2⟩ := gg.2 r' hr'
      have h8 := (g.r r' hr').2.1
      have z : ∀ k, k < P r' → ¬ 8 * r' + k = 8 * r + P r := fun k hk => pz_ne hp (by omega) (fun z => e z.1)
      refine ⟨?_, ?_⟩
      · intro h1 g' hg' h2
        rw [hPne r' e, e37, e38]
        rw [e26] at h1
        rw [e29] at h2
        obtain ⟨c1, c2⟩ := q1 h1 g' hg' h2
        refine ⟨c1, fun k hk hb => ?_⟩
        rw [pzd_gv, if_neg (z k hk)]
        exact c2 k hk hb
      · intro h1 g' hg' h2
        rw [hPne r' e, e37]
        rw [e26] at h1
        rw [e29] at h2
        have c := q2 h1 g' hg' h2
        rw [rch_cong (S' := wk σ r') (nd' := rnd σ r') (gv' := rgv σ r') (fun k hk => ?_) (fun k hk => ?_) (fun k hk => ?_)]
        · exact c
        · unfold wk
          rw [pzd_pr, if_neg (z k hk), e15]
        · rw [pzd_nd, if_neg (z k hk)]
        · rw [pzd_gv, if_neg (z k hk)]
theorem relC_pzd (q : relC ρ σ R G B P) (g : good0 σ R G B P) {r : Nat} (hr : r < R) (hp : P r < 8) (nd gv pr mn : Int32) : ∃ ρ', f_X2_addPuzzle ρ r nd gv pr mn = some (nI (P r), ρ') ∧ relC ρ' (pzd σ r (P r) nd gv pr mn) R G B (pzP P r) ∧ frC ρ ρ' := by
  have h4 := g.R4
  have hc : (nI (P r)).toNatClampNeg = P r := nI_clamp (by omega)
  obtain ⟨d0, d1, d6, d7, d8, d9, d10, d12, dk⟩ := q.r r hr
  have e7 : (kh_up (kh_up (kh_up (kh_up ρ 7 0 r (P r) nd) 8 0 r (P r) gv) 9 0 r (P r) pr) 10 0 r (P r) mn) 6 7 r 0 = gsum (rtk σ r) (P r) := by
    rw [rd_ne (by decide), rd_ne (by decide), rd_ne (by decide), rd_ne (by decide), d7]
  have e6 : (kh_up (kh_up (kh_up (kh_up (kh_up ρ 7 0 r (P r) nd) 8 0 r (P r) gv) 9 0 r (P r) pr) 10 0 r (P r) mn) 6 7 r 0 (gsum (rtk σ r) (P r) + mn)) 6 6 r 0 = nI (P r) := by
    rw [kh_up_ne (by omega), rd_ne (by decide), rd_ne (by decide), rd_ne (by decide), rd_ne (by decide), d6]
  have hPne : ∀ r', r' ≠ r → pzP P r r' = P r' := fun r' e => if_neg e
  unfold f_X2_addPuzzle
  rw [kp_gdT (decide_eq_true (by rw [q.n6 g]; exact hr)), d6, kp_gdT (kp_in hp (by omega)), hc, e7, e6, nI_1]
  refine ⟨_, rfl, ?_, frC_up (frC_up (frC_up (frC_up (frC_up (frC_up (frC_rfl ρ) (by omega)) (by omega)) (by omega)) (by omega)) (by omega)) (by omega)⟩
  refine ⟨?_, ?_, fun r' hr' => ?_, fun g' hg' => ?_, fun j hj => ?_, fun b hb => ?_⟩
  · simpa [cS, pzd, up_rd] using q.1
  · simpa [cA, up_rd] using q.2.1
  · obtain ⟨c0, c1, c6, c7, c8, c9, c10, c12, ck⟩ := q.r r' hr'
    have h8 := (g.r r' hr').2.1
    have key : ∀ k, k < pzP P r r' → ¬ (r' = r ∧ k = P r) → k < P r' := by
      intro k hk e
      by_cases e2 : r' = r
      · subst e2
        have : k < P r' + 1 := by simpa [pzP] using hk
        omega
      · rw [hPne r' e2] at hk; exact hk
    refine ⟨?_, ?_, ?_, ?_, ?_, ?_, ?_, ?_, fun k hk => ?_⟩
    · simpa [up_rd] using c0
    · simpa [pzd, up_rd] using c1
    · by_cases e : r' = r
      · subst e; simp [up_rd, pzP]
      · rw [hPne r' e]; simpa [up_rd, e] using c6
    · by_cases e : r' = r
      · subst e
        have z : pzP P r' r' = P r' + 1 := by simp [pzP]
        rw [z]
        show _ = gsum _ (P r') + rtk _ r' (P r')
        rw [pzd_tk, if_pos rfl, gsum_cong (f := rtk (pzd σ r' (P r') nd gv pr mn) r') (f' := rtk σ r') (fun k hk => by rw [pzd_tk, if_neg (by omega)])]
        simp [up_rd]
      · rw [hPne r' e, gsum_cong (f := rtk (pzd σ r (P r) nd gv pr mn) r') (f' := rtk σ r') (fun k hk => by rw [pzd_tk, if_neg (pz_ne hp (by omega) (fun z => e z.1))])]
        simpa [up_rd, e] using c7
    · simpa [pzd, up_rd] using c8
    · simpa [pzd, up_rd] using c9
    · simpa [pzd, up_rd] using c10
    · simpa [pzd, up_rd] using c12
    · rw [pzd_nd, pzd_gv, pzd_pr, pzd_tk]
      by_cases e : r' = r ∧ k = P r
      · obtain ⟨rfl, rfl⟩ := e
        simp [up_rd]
      · have hk8 := key k hk e
        have hz := pz_ne (p := P r) (k := k) (r := r) (r' := r') hp (by omega) e
        rw [if_neg hz, if_neg hz, if_neg hz, if_neg hz]
        simpa [up_rd, e] using ck k hk8
  · simpa [cG, pzd, up_rd] using q.g g' hg'
  · simpa [cW, pzd, up_rd] using q.w j hj
  · simpa [cB, pzd, up_rd] using q.b b hb
def pgd (a2 a3 a5 : Int32) : Prop := ¬ (a2 < 0 ∨ 4095 < a2) ∧ ¬ (a3 < 1 ∨ 4095 < a3) ∧ (a2 &&& a3) = 0 ∧ ¬ (a5 < 1 ∨ 10 < a5)
theorem lt_one {x : Int32} : x < 1 ↔ (x < 0 ∨ x = 0) := by
  rw [i_lt, i_lt, ← Int32.toInt_inj]
  show x.toInt < 1 ↔ (x.toInt < 0 ∨ x.toInt = 0)
  omega
theorem c_pz1 (ρ : kh_S) {a2 a3 a4 a5 y : Int32} (h : ¬ pgd a2 a3 a5) : f_X4_puzzle_L31 ρ a2 a3 a4 a5 y = some (.inl (kh_E1, ρ)) := by
  unfold f_X4_puzzle_L31 f_X4_puzzle_L45 f_X4_puzzle_L65 f_X4_puzzle_L88
  rw [c_areThings, kp_bd, c_areThings, kp_bd]
  by_cases h2 : a2 < 0 ∨ 4095 < a2
  · rw [if_pos h2, if_pos rfl]
  rw [if_neg h2, if_neg one_ne]
  by_cases h3 : a3 < 0 ∨ 4095 < a3
  · rw [if_pos h3, if_pos rfl]
  rw [if_neg h3, if_neg one_ne]
  by_cases h4 : a3 = 0
  · rw [if_pos h4]
  rw [if_neg h4]
  by_cases h5 : (a3 &&& a2) = 0
  · rw [if_pos h5]
    by_cases h6 : a5 < 1
    · rw [if_pos h6]
    · rw [if_neg h6]
      by_cases h7 : a5 ≤ 10
      · refine absurd ⟨h2, fun z => ?_, by rw [Int32.and_comm]; exact h5, fun z => z.elim h6 (Int32.not_lt.mpr h7)⟩ h
        rcases z with z | z
        · rcases lt_one.mp z with z | z
          · exact h3 (Or.inl z)
          · exact h4 z
        · exact h3 (Or.inr z)
      · rw [if_neg h7]
  · rw [if_neg h5]
theorem c_pz2 (ρ : kh_S) {a2 a3 a4 a5 y : Int32} (h : pgd a2 a3 a5) : f_X4_puzzle_L31 ρ a2 a3 a4 a5 y = kh_gd (kh_in y (kh_n ρ 6)) (if (ρ 6 8 y.toNatClampNeg 0) = 0 then if (ρ 6 6 y.toNatClampNeg 0) < (8 : Int32) then kh_bd2 (f_X2_addPuzzle ρ y.toNatClampNeg a2 a3 a4 a5) (fun r_14 ρ_14 => some (.inr (r_14, ρ_14))) else f_X4_puzzle_L116 ρ else f_X4_puzzle_L116 ρ) := by
  obtain ⟨h2, h3, h5, h6⟩ := h
  unfold f_X4_puzzle_L31
  have h3' : ¬ (a3 < 0 ∨ 4095 < a3) := fun z => h3 (z.elim (fun z => Or.inl (lt_one.mpr (Or.inl z))) Or.inr)
  have h4 : ¬ a3 = 0 := fun z => h3 (Or.inl (lt_one.mpr (Or.inr z)))
  rw [c_areThings, kp_bd, c_areThings, kp_bd, if_neg h2, if_neg one_ne, if_neg h3', if_neg one_ne, if_neg h4, if_pos (by rw [Int32.and_comm]; exact h5), if_neg (fun z => h6 (Or.inl z)), if_pos (Int32.not_lt.mp (fun z => h6 (Or.inr z)))]
theorem m_pz (τ : kh_S) (a1 a2 a3 a4 a5 t : Int32) : (pgd a2 a3 a5 → f_X5_puzzle_L24 τ a1 a2 a3 a4 a5 t = f_X5_puzzle_L70 τ a1 a2 a3 a4 a5 t 1) ∧ (¬ pgd a2 a3 a5 → f_X5_puzzle_L24 τ a1 a2 a3 a4 a5 t = f_X5_puzzle_L70 τ a1 a2 a3 a4 a5 t 0) := by
  unfold f_X5_puzzle_L24 f_X5_puzzle_L69
  rw [m_in, kp_bd, m_in, kp_bd, m_in, kp_bd]
  refine ⟨fun h => ?_, fun h => ?_⟩
  · obtain ⟨h2, h3, h5, h6⟩ := h
    rw [if_neg h2, if_neg one_ne, if_neg h3, if_neg one_ne, if_pos h5, if_neg h6, if_neg one_ne]
  · by_cases h2 : a2 < 0 ∨ 4095 < a2
    · rw [if_pos h2, if_pos rfl]
    rw [if_neg h2, if_neg one_ne]
    by_cases h3 : a3 < 1 ∨ 4095 < a3
    · rw [if_pos h3, if_pos rfl]
    rw [if_neg h3, if_neg one_ne]
    by_cases h5 : (a2 &&& a3) = 0
    · rw [if_pos h5]
      by_cases h6 : a5 < 1 ∨ 10 < a5
      · rw [if_pos h6, if_pos rfl]
      · exact absurd ⟨h2, h3, h5, h6⟩ h
    · rw [if_neg h5]
theorem pr_cases (x : Int32) : ((x < -1 ∨ 7 < x) ∧ ¬ x = -1 ∧ (x < 0 ∨ 8 ≤ x)) ∨ (¬ (x < -1 ∨ 7 < x) ∧ (x = -1 ∨ ((∃ q, q < 8 ∧ x = nI q) ∧ ¬ x = -1 ∧ ¬ (x < 0 ∨ 8 ≤ x)))) := by
  by_cases h : x = -1
  · subst h
    exact Or.inr ⟨by decide, Or.inl rfl⟩
  · rcases ix_cases x 8 (by omega) with h2 | ⟨q, hq, rfl⟩
    · refine Or.inl ⟨?_, h, h2⟩
      have h3 : ¬ x.toInt = -1 := fun z => h (Int32.toInt_inj.mp z)
      rw [i_lt, i_lt]
      show x.toInt < -1 ∨ 7 < x.toInt
      rcases h2 with h2 | h2
      · rw [i_lt] at h2
        have h2 : x.toInt < 0 := h2
        omega
      · rw [i_le] at h2
        have h2 : 8 ≤ x.toInt := h2
        omega
    · refine Or.inr ⟨?_, Or.inr ⟨⟨q, hq, rfl⟩, h, no_ix (n := 8) hq (by omega)⟩⟩
      have := nI_toInt (n := q) (by omega)
      rw [i_lt, i_lt, this]
      show ¬ ((q : Int) < -1 ∨ 7 < (q : Int))
      omega
theorem q_puzzle (gg : good σ R G B P) (a1 a2 a3 a4 a5 : Int32) : stepOK (fun ρ => f_L_puzzle ρ a1 a2 a3 a4 a5) (fun τ => f_X5_puzzle τ a1 a2 a3 a4 a5) σ R G B P := by
  have g := gg.1
  have h4 := g.R4
  rcases ix_cases a1 R (by omega) with h | ⟨r, hr, rfl⟩
  · refine stepE gg 1 0 (by decide) (fun ρ q => ?_) (fun τ gt _ => ?_)
    · show f_L_puzzle ρ a1 a2 a3 a4 a5 = _
      unfold f_L_puzzle f_X4_puzzle
      rw [c_rn0 q h, kp_bxl, kx_l, if_pos rfl]
      rfl
    · show f_X5_puzzle τ a1 a2 a3 a4 a5 = _
      unfold f_X5_puzzle f_X5_puzzle_L23
      rw [m_isRoom gt, if_pos h, kp_bd, if_pos rfl]
      have hz : ∀ t : Int32, f_X5_puzzle_L70 τ a1 a2 a3 a4 a5 0 t = some (0, kh_up τ 15 0 0 0 1) := by
        intro t
        unfold f_X5_puzzle_L70 f_X5_puzzle_L116
        rw [if_pos rfl, m_ref1, kp_bd2, if_neg one_ne]
      by_cases hg : pgd a2 a3 a5
      · rw [(m_pz τ a1 a2 a3 a4 a5 0).1 hg, hz]
      · rw [(m_pz τ a1 a2 a3 a4 a5 0).2 hg, hz]
  have hcl : (nI r).toNatClampNeg = r := nI_clamp (by omega)
  rcases pr_cases a4 with ⟨hp1, hp2, hp3⟩ | ⟨hp1, hp2⟩
  · refine stepE gg 1 0 (by decide) (fun ρ q => ?_) (fun τ gt _ => ?_)
    · show f_L_puzzle ρ (nI r) a2 a3 a4 a5 = _
      unfold f_L_puzzle f_X4_puzzle
      rw [c_rn1 q g hr, kp_bxr, if_neg hp2, c_isProp, if_pos hp3, kp_bd, if_pos rfl, kx_l, if_pos rfl]
      rfl
    · show f_X5_puzzle τ (nI r) a2 a3 a4 a5 = _
      unfold f_X5_puzzle f_X5_puzzle_L23
      rw [m_isRoom gt, if_neg (no_ix hr (by omega)), kp_bd, if_neg one_ne, m_in, if_pos hp1, kp_bd, if_pos rfl]
      have hz : ∀ t : Int32, f_X5_puzzle_L70 τ (nI r) a2 a3 a4 a5 0 t = some (0, kh_up τ 15 0 0 0 1) := by
        intro t
        unfold f_X5_puzzle_L70 f_X5_puzzle_L116
        rw [if_pos rfl, m_ref1, kp_bd2, if_neg one_ne]
      by_cases hg : pgd a2 a3 a5
      · rw [(m_pz τ (nI r) a2 a3 a4 a5 0).1 hg, hz]
      · rw [(m_pz τ (nI r) a2 a3 a4 a5 0).2 hg, hz]
  have hC : ∀ ρ : kh_S, ∀ σ1, relC ρ σ1 R G B P → good0 σ1 R G B P → f_X4_puzzle ρ (nI r) a2 a3 a4 a5 = f_X4_puzzle_L31 ρ a2 a3 a4 a5 (nI r) := by
    intro ρ σ1 q g1
    unfold f_X4_puzzle
    rw [c_rn1 q g1 hr, kp_bxr]
    rcases hp2 with h | ⟨-, h2, h3⟩
    · rw [if_pos h]
    · rw [if_neg h2, c_isProp, if_neg h3, kp_bd, if_neg one_ne]
  have hM : ∀ τ : kh_S, good0 τ R G B P → f_X5_puzzle τ (nI r) a2 a3 a4 a5 = f_X5_puzzle_L24 τ (nI r) a2 a3 a4 a5 1 := by
    intro τ gt
    unfold f_X5_puzzle
    rw [m_isRoom gt, if_neg (no_ix hr (by omega)), kp_bd, if_neg one_ne, m_in, if_neg hp1, kp_bd, if_neg one_ne]
  by_cases hg : pgd a2 a3 a5
  · have h8 := (g.r r hr).2.1
    by_cases hc : σ 26 0 0 r = 0 ∧ P r < 8
    · obtain ⟨c1, c2⟩ := hc
      have g1 := eqv_good (eqv_thr σ 0) gg
      have c1' : kh_up σ 15 0 0 0 0 26 0 0 r = 0 := by simpa [up_rd] using c1
      have hpr : a4 = -1 ∨ ∃ q, q < 8 ∧ a4 = nI q := hp2.elim Or.inl (fun z => Or.inr z.1)
      have hmn : ∃ m, 1 ≤ m ∧ m ≤ 10 ∧ a5 = nI m := by
        obtain ⟨-, -, -, z⟩ := hg
        have z0 : ¬ a5 < 0 := fun y => z (Or.inl (lt_one.mpr (Or.inl y)))
        obtain ⟨m, hm, rfl⟩ := nI_of2 (M := 10) (n := 10) rfl z0 (Int32.not_lt.mp (fun y => z (Or.inr y)))
        refine ⟨m, ?_, hm, rfl⟩
        rcases Nat.eq_zero_or_pos m with e | e
        · subst e
          exact absurd (Or.inl (by decide)) z
        · omega
      refine stepG gg (good_pzd g1 hr c2 c1' a2 a3 a4 a5 hpr hmn) (by simp [pzd, up_rd]) (nI (P r)) (fun ρ q => ?_) (fun τ gt e => ?_)
      · obtain ⟨ρ', x1, x2, x3⟩ := relC_pzd q g1.1 hr c2 a2 a3 a4 a5
        refine ⟨ρ', ?_, x2, x3⟩
        show f_L_puzzle ρ (nI r) a2 a3 a4 a5 = _
        unfold f_L_puzzle
        rw [hC ρ _ q g1.1, c_pz2 ρ hg, kp_gdT (q.i6 g1.1 hr), hcl, (q.r r hr).2.2.2.2.1, if_pos c1', (q.r r hr).2.2.1, if_pos (show nI (P r) < 8 from nI_lt (b := 8) c2 (by omega)), x1, kp_bd2, kx_r]
      · have e1 : kM (kh_up τ 15 0 0 0 0) (kh_up σ 15 0 0 0 0) := kM_up e 15 0 0 0 rfl
        refine ⟨pzd (kh_up τ 15 0 0 0 0) r (P r) a2 a3 a4 a5, ?_, kM_up (kM_up (kM_up (kM_up (kM_up e1 30 0 0 _ rfl) 31 0 0 _ rfl) 32 0 0 _ rfl) 33 0 0 _ rfl) 25 0 0 r rfl, frM_up (frM_up (frM_up (frM_up (frM_up (frM_up (frM_rfl τ) (by omega)) (by omega)) (by omega)) (by omega)) (by omega)) (by omega)⟩
        show f_X5_puzzle τ (nI r) a2 a3 a4 a5 = _
        have x25 : τ 25 0 0 r = nI (P r) := (gt.r r hr).1
        have x8 : ¬ nI (P r) = 8 := fun z => absurd (nI_inj (b := 8) z (by omega) (by omega)) (by omega)
        have h0 : kh_up τ 15 0 0 0 0 25 0 0 r = nI (P r) := by simpa [up_rd] using x25
        rw [hM τ gt, (m_pz τ (nI r) a2 a3 a4 a5 1).1 hg]
        unfold f_X5_puzzle_L70 f_X5_puzzle_L116
        rw [if_neg one_ne, if_neg one_ne, kp_gdT (kp_in (show r < 4 by omega) (by omega)), hcl, e 26 (by omega) (by omega), if_pos c1, x25, if_neg x8, m_ref0, kp_bd2, if_pos rfl]
        generalize kh_up τ 15 0 0 0 0 = τ0 at h0 ⊢
        have hc8 : (nI (8 * r + P r)).toNatClampNeg = 8 * r + P r := nI_clamp (by omega)
        have h1 : (kh_up (kh_up (kh_up (kh_up τ0 30 0 0 (8 * r + P r) a2) 31 0 0 (8 * r + P r) a3) 32 0 0 (8 * r + P r) a4) 33 0 0 (8 * r + P r) a5) 25 0 0 r = nI (P r) := by
          rw [rd_ne (by decide), rd_ne (by decide), rd_ne (by decide), rd_ne (by decide), h0]
        rw [kp_gdT (kp_in (show r < 4 by omega) (by omega)), h0, at8, kp_gdT (kp_in (show 8 * r + P r < 32 by omega) (by omega)), hc8, h1, up_at, nI_1, nI_sub1]
        rfl
    · refine stepE gg 3 0 (by decide) (fun ρ q => ?_) (fun τ gt e => ?_)
      · show f_L_puzzle ρ (nI r) a2 a3 a4 a5 = _
        unfold f_L_puzzle
        have hE : kh_hx (f_X4_puzzle_L116 ρ) (fun E => if E = kh_E3 then some (1 : Int32) else (if E = kh_E1 then some (2 : Int32) else (if E = kh_E2 then some (3 : Int32) else none))) (fun r : Int32 × kh_S => some ((0 : Int32), kh_up r.2 60 0 0 (0 : Int32).toNatClampNeg r.1)) = some (3, ρ) := by
          unfold f_X4_puzzle_L116
          rw [kx_l]
          simp only [kE2_3, kE2_1, if_false, if_true]
          rfl
        rw [hC ρ _ q g, c_pz2 ρ hg, kp_gdT (q.i6 g hr), hcl, (q.r r hr).2.2.2.2.1, (q.r r hr).2.2.1]
        by_cases c1 : σ 26 0 0 r = 0
        · rw [if_pos c1, if_neg (show ¬ nI (P r) < 8 from nI_nlt (b := 8) (by
            have : ¬ P r < 8 := fun z => hc ⟨c1, z⟩
            omega) (by omega))]
          exact hE
        · rw [if_neg c1]; exact hE
      · show f_X5_puzzle τ (nI r) a2 a3 a4 a5 = _
        have x25 : τ 25 0 0 r = nI (P r) := (gt.r r hr).1
        rw [hM τ gt, (m_pz τ (nI r) a2 a3 a4 a5 1).1 hg]
        unfold f_X5_puzzle_L70 f_X5_puzzle_L111 f_X5_puzzle_L116
        rw [if_neg one_ne, if_neg one_ne, kp_gdT (kp_in (show r < 4 by omega) (by omega)), hcl, e 26 (by omega) (by omega), x25, m_ref3, kp_bd2, if_neg one_ne]
        by_cases c1 : σ 26 0 0 r = 0
        · have x8 : P r = 8 := by
            have : ¬ P r < 8 := fun z => hc ⟨c1, z⟩
            omega
          rw [if_pos c1, x8, if_pos (show nI 8 = 8 from rfl)]
        · rw [if_neg c1]
  · refine stepE gg 2 0 (by decide) (fun ρ q => ?_) (fun τ gt e => ?_)
    · show f_L_puzzle ρ (nI r) a2 a3 a4 a5 = _
      unfold f_L_puzzle
      rw [hC ρ _ q g, c_pz1 ρ hg, kx_l]
      simp only [kE1_3, if_false, if_true]
      rfl
    · show f_X5_puzzle τ (nI r) a2 a3 a4 a5 = _
      rw [hM τ gt, (m_pz τ (nI r) a2 a3 a4 a5 1).2 hg]
      unfold f_X5_puzzle_L70 f_X5_puzzle_L116
      rw [if_neg one_ne, if_pos rfl, m_ref2, kp_bd2, if_neg one_ne]
end MAKE
