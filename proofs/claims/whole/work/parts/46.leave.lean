/-! reading behind a write; a group leaves; giveUp; solve -/
theorem up_rd (ρ : kh_S) (k s i j : Nat) (v : Int32) (k' s' i' j' : Nat) : kh_up ρ k s i j v k' s' i' j' = if k' = k ∧ s' = s ∧ i' = i ∧ j' = j then v else ρ k' s' i' j' := rfl
theorem rnd_up {σ : kh_S} {k s i j : Nat} {v : Int32} (h : k ≠ 30) (r : Nat) : rnd (kh_up σ k s i j v) r = rnd σ r := by
  funext x; exact kh_up_ne (fun z => h z.1.symm)
theorem rgv_up {σ : kh_S} {k s i j : Nat} {v : Int32} (h : k ≠ 31) (r : Nat) : rgv (kh_up σ k s i j v) r = rgv σ r := by
  funext x; exact kh_up_ne (fun z => h z.1.symm)
theorem rpr_up {σ : kh_S} {k s i j : Nat} {v : Int32} (h : k ≠ 32) (r : Nat) : rpr (kh_up σ k s i j v) r = rpr σ r := by
  funext x; exact kh_up_ne (fun z => h z.1.symm)
theorem rtk_up {σ : kh_S} {k s i j : Nat} {v : Int32} (h : k ≠ 33) (r : Nat) : rtk (kh_up σ k s i j v) r = rtk σ r := by
  funext x; exact kh_up_ne (fun z => h z.1.symm)
theorem wk_up {σ : kh_S} {k s i j : Nat} {v : Int32} (h : k ≠ 32) (h2 : k ≠ 15) (r : Nat) : wk (kh_up σ k s i j v) r = wk σ r := by
  funext x
  show (!outp (kh_up σ k s i j v 15 2 0 0) (rpr (kh_up σ k s i j v) r x)) = _
  rw [rpr_up h, kh_up_ne (fun z => h2 z.1.symm)]
  rfl
theorem nI_inj {a b : Nat} (h : nI a = nI b) (ha : a < 2 ^ 31) (hb : b < 2 ^ 31) : a = b := (nI_eq ha hb).mp h
theorem nI_m1 {a : Nat} (ha : a < 2 ^ 31) : nI a ≠ -1 := fun h => by
  have h1 := nI_pos ha
  rw [h] at h1
  exact h1 (by decide)
def lv (σ : kh_S) (g : Nat) (what : Int32) (r : Nat) : kh_S := kh_up (kh_up (kh_up (kh_up σ 35 0 0 g what) 26 0 0 r 2) 27 0 0 r (σ 38 0 0 g)) 29 0 0 r (-1)
theorem m_leaves (τ : kh_S) {g r : Nat} (hg : g < 30) (hr : r < 4) (e : τ 36 0 0 g = nI r) (what : Int32) : f_X5_leaves τ (nI g) what = some (lv τ g what r) := by
  unfold f_X5_leaves
  have w : (kh_up (kh_up τ 35 0 0 g what) 26 0 0 r 2) 38 0 0 g = τ 38 0 0 g := by simp [up_rd]
  rw [nI_clamp (by omega), e, nI_clamp (by omega), kp_gdT (kp_in hg (by omega)), kp_gdT (kp_in hr (by omega)), w]
  rfl
theorem kM_lv {τ σ : kh_S} (h : kM τ σ) (g : Nat) (what : Int32) (r : Nat) : kM (lv τ g what r) (lv σ g what r) :=
  kM_up (kM_up (kM_up (kM_up h 35 0 0 g rfl) 26 0 0 r rfl) 27 0 0 r (by rw [h 38 (by omega) (by omega)])) 29 0 0 r rfl
theorem frM_lv {τ τ' : kh_S} (h : frM τ τ') (g : Nat) (what : Int32) (r : Nat) : frM τ (lv τ' g what r) :=
  frM_up (frM_up (frM_up (frM_up h (by omega)) (by omega)) (by omega)) (by omega)
theorem lv_ne {σ : kh_S} {g : Nat} {what : Int32} {r : Nat} {k : Nat} (h : k ≠ 35 ∧ k ≠ 26 ∧ k ≠ 27 ∧ k ≠ 29) : lv σ g what r k = σ k := by
  unfold lv
  rw [up_k h.2.2.2, up_k h.2.2.1, up_k h.2.1, up_k h.1]
section LEAVE
variable {ρ σ : kh_S} {R G B : Nat} {P : Nat → Nat}
theorem c_leave (q : relC ρ σ R G B P) (g : good0 σ R G B P) {i r : Nat} (hi : i < G) (hr : r < R) (z : σ 36 0 0 i = nI r) (what : Int32) : ∃ ρ', f_X4_leave ρ (nI i) what = some ρ' ∧ relC ρ' (lv σ i what r) R G B P ∧ frC ρ ρ' := by
  have h4 := g.R4
  have h30 := g.G30
  obtain ⟨w0, w1, w2, w4, w5, w6, w7, w8, w9⟩ := q.g i hi
  unfold f_X4_leave
  rw [nI_clamp (show i < 2 ^ 31 by omega), w1, z, nI_clamp (show r < 2 ^ 31 by omega), kp_gdT (q.i11 g hi), kp_gdT (by rw [kh_n_up (by decide)]; exact q.i6 g hr)]
  refine ⟨_, rfl, ?_, frC_up (frC_up (frC_up (frC_up (frC_rfl ρ) (by omega)) (by omega)) (by omega)) (by omega)⟩
  refine ⟨?_, ?_, fun r' hr' => ?_, fun g' hg' => ?_, fun j hj => ?_, fun b hb => ?_⟩
  · simpa [cS, lv, up_rd] using q.1
  · simpa [cA, up_rd] using q.2.1
  · obtain ⟨c0, c1, c6, c7, c8, c9, c10, c12, ck⟩ := q.r r' hr'
    by_cases e : r' = r
    · subst e
      refine ⟨?_, ?_, ?_, ?_, ?_, ?_, ?_, ?_, fun k hk => ?_⟩
      · simpa [up_rd] using c0
      · simpa [lv, up_rd] using c1
      · simpa [up_rd] using c6
      · simpa [lv, up_rd, rtk_up] using c7
      · simp [lv, up_rd]
      · simpa [lv, up_rd] using w7
      · simpa [lv, up_rd] using c10
      · simp [lv, up_rd]
      · simpa [lv, up_rd, rtk_up, rnd_up, rgv_up, rpr_up] using ck k hk
    · refine ⟨?_, ?_, ?_, ?_, ?_, ?_, ?_, ?_, fun k hk => ?_⟩
      · simpa [up_rd, e] using c0
      · simpa [lv, up_rd, e] using c1
      · simpa [up_rd, e] using c6
      · simpa [lv, up_rd, rtk_up, e] using c7
      · simpa [lv, up_rd, e] using c8
      · simpa [lv, up_rd, e] using c9
      · simpa [lv, up_rd, e] using c10
      · simpa [lv, up_rd, e] using c12
      · simpa [lv, up_rd, rtk_up, rnd_up, rgv_up, rpr_up, e] using ck k hk
  · by_cases e : g' = i
    · subst e
      refine ⟨?_, ?_, ?_, ?_, ?_, ?_, ?_, ?_, fun k hk => ?_⟩
      · simpa [up_rd] using w0
      · simpa [lv, up_rd] using w1
      · simpa [lv, up_rd] using w2
      · simpa [lv, up_rd] using w4
      · simpa [lv, up_rd] using w5
      · simp [lv, up_rd]
      · simpa [lv, up_rd] using w7
      · simpa [lv, up_rd] using w8
      · simpa [lv, up_rd] using w9 k hk
    · simpa [cG, lv, up_rd, e] using q.g g' hg'
  · simpa [cW, lv, up_rd] using q.w j hj
  · simpa [cB, lv, up_rd] using q.b b hb
theorem good0_lv (g : good0 σ R G B P) {i r : Nat} (hi : i < G) (hr : r < R) (z : σ 36 0 0 i = nI r) (hp : σ 35 0 0 i = 0) {what : Int32} (hw : what ≠ 0) : good0 (lv σ i what r) R G B P := by
  have h4 := g.R4
  have h30 := g.G30
  obtain ⟨r0, hr0, z0, zi, zp⟩ := g.g i hi
  obtain rfl : r0 = r := nI_inj (z0.symm.trans z) (by omega) (by omega)
  obtain ⟨p1, p2⟩ := zp hp
  refine ⟨?_, fun r' hr' => ?_, fun r' h1 h2 => ?_, fun r' hr' => ?_, fun g' hg' => ?_, ?_, fun j hj => ?_, ?_, fun b hb => ?_⟩
  · simpa [gS, lv, up_rd] using g.1
  · obtain ⟨c1, c2, c3, c4, c5⟩ := g.r r' hr'
    refine ⟨?_, c2, ?_, ?_, ?_⟩
    · simpa [lv, up_rd] using c1
    · simpa [lv, rpr_up, rtk_up] using c3
    · by_cases e : r' = r0
      · subst e; simpa [lv, up_rd] using zi
      · simpa [lv, up_rd, e] using c4
    · simpa [lv, up_rd] using c5
  · have e : ¬ r' = r0 := by omega
    simpa [lv, up_rd, e] using g.n r' h1 h2
  · by_cases e : r' = r0
    · subst e
      refine Or.inr ⟨?_, ?_⟩
      · simp [lv, up_rd]
      · simp [lv, up_rd]
    · rcases g.p r' hr' with ⟨a1, g', hg', a2, a3, a4⟩ | a
      · have e2 : ¬ g' = i := by
          intro e2; subst e2
          exact e (nI_inj (a3.symm.trans z) (by omega) (by omega))
        refine Or.inl ⟨?_, g', hg', ?_, ?_, ?_⟩
        · simpa [lv, up_rd, e] using a1
        · simpa [lv, up_rd, e] using a2
        · simpa [lv, up_rd] using a3
        · simpa [lv, up_rd, e2] using a4
      · refine Or.inr ?_
        simpa [lv, up_rd, e] using a
  · obtain ⟨r', hr', a1, a2, a3⟩ := g.g g' hg'
    refine ⟨r', hr', ?_, ?_, fun h => ?_⟩
    · simpa [lv, up_rd] using a1
    · simpa [lv, up_rd] using a2
    · by_cases e : g' = i
      · subst e
        refine absurd ?_ hw
        simpa [lv, up_rd] using h
      · have h' : σ 35 0 0 g' = 0 := by simpa [lv, up_rd, e] using h
        obtain ⟨b1, b2⟩ := a3 h'
        have e2 : ¬ r' = r0 := by
          intro e2; subst e2
          exact e (nI_inj (b2.symm.trans p2) (by omega) (by omega))
        refine ⟨?_, ?_⟩
        · simpa [lv, up_rd, e2] using b1
        · simpa [lv, up_rd, e2] using b2
  · simpa [gH, lv, up_rd] using g.h
  · obtain ⟨a0, a⟩ := g.w j hj
    refine ⟨by simpa [lv, up_rd] using a0, ?_⟩
    rcases a with a | ⟨r', hr', b1, b2, b3, b4⟩
    · refine Or.inl ?_
      simpa [lv, up_rd] using a
    · have e2 : ¬ r' = r0 := by
        intro e2; subst e2
        rw [p1] at b2
        exact absurd b2 (by decide)
      refine Or.inr ⟨r', hr', ?_, ?_, ?_, ?_⟩
      · simpa [lv, up_rd] using b1
      · simpa [lv, up_rd, e2] using b2
      · simpa [lv, up_rd] using b3
      · simpa [lv, up_rd] using b4
  · simpa [gD, lv, up_rd] using g.d
  · simpa [gB, lv, up_rd] using g.b b hb
theorem gQ1_lv {i r r' : Nat} {what : Int32} (h : r' ≠ r → gQ1 σ P r') : gQ1 (lv σ i what r) P r' := by
  intro h1 g hg h2
  by_cases e : r' = r
  · subst e
    have h1 : (2 : Int32) = 1 := by simpa [lv, up_rd] using h1
    exact absurd h1 (by decide)
  · have h1 : σ 26 0 0 r' = 1 := by simpa [lv, up_rd, e] using h1
    have h2 : σ 29 0 0 r' = nI g := by simpa [lv, up_rd, e] using h2
    have h3 := h e h1 g hg h2
    simpa [lv, up_rd, rgv_up] using h3
theorem gQ2_lv {i r r' : Nat} {what : Int32} (h : r' ≠ r → gQ2 σ P r') : gQ2 (lv σ i what r) P r' := by
  intro h1 g hg h2
  by_cases e : r' = r
  · subst e
    have h1 : (2 : Int32) = 1 := by simpa [lv, up_rd] using h1
    exact absurd h1 (by decide)
  · have h1 : σ 26 0 0 r' = 1 := by simpa [lv, up_rd, e] using h1
    have h2 : σ 29 0 0 r' = nI g := by simpa [lv, up_rd, e] using h2
    have h3 := h e h1 g hg h2
    simpa [lv, up_rd, rgv_up, rnd_up, wk_up] using h3
theorem good_lv (g : good σ R G B P) {i r : Nat} (hi : i < G) (hr : r < R) (z : σ 36 0 0 i = nI r) (hp : σ 35 0 0 i = 0) {what : Int32} (hw : what ≠ 0) : good (lv σ i what r) R G B P :=
  ⟨good0_lv g.1 hi hr z hp hw, fun r' hr' => ⟨gQ1_lv (fun _ => (g.2 r' hr').1), gQ2_lv (fun _ => (g.2 r' hr').2)⟩⟩
theorem q_giveUp (gg : good σ R G B P) (a1 : Int32) : stepV (fun ρ => f_L_giveUp ρ a1) (fun τ => f_X5_giveUp τ a1) σ R G B P := by
  have g := gg.1
  have h4 := g.R4
  have h30 := g.G30
  rcases ix_cases a1 G (by omega) with h | ⟨i, hi, rfl⟩
  · refine stepVE gg 1 (fun ρ q => ?_) (fun τ gt _ => ?_)
    · show f_L_giveUp ρ a1 = _
      unfold f_L_giveUp f_X4_giveUp
      rw [c_gn0 q h, kp_bxl, kx_l, if_pos rfl]
      rfl
    · show f_X5_giveUp τ a1 = _
      unfold f_X5_giveUp f_X5_giveUp_L29 f_X5_giveUp_L41
      rw [m_isGroup gt, if_pos h, kp_bd, if_pos rfl, m_ref1, kp_bd2, if_neg one_ne]
  obtain ⟨r, hr, z, -⟩ := g.g i hi
  by_cases hp : σ 35 0 0 i = 0
  · have g1 := eqv_good (eqv_thr σ 0) gg
    have z1 : kh_up σ 15 0 0 0 0 36 0 0 i = nI r := by simpa [up_rd] using z
    have hp1 : kh_up σ 15 0 0 0 0 35 0 0 i = 0 := by simpa [up_rd] using hp
    refine stepGV gg (good_lv g1 hi hr z1 hp1 (show (2 : Int32) ≠ 0 by decide)) (by rw [lv_ne (by omega)]; exact up_at _ _ _ _ _ _) (fun ρ q => ?_) (fun τ gt e => ?_)
    · obtain ⟨ρ', h1, h2, h3⟩ := c_leave q g1.1 hi hr z1 2
      refine ⟨ρ', ?_, h2, h3⟩
      show f_L_giveUp ρ (nI i) = _
      unfold f_L_giveUp f_X4_giveUp
      rw [c_gn1 q g1.1 hi, kp_bxr, kp_gdT (q.i11 g1.1 hi), nI_clamp (by omega), (q.g i hi).2.2.2.2.2.1, if_pos hp1, h1, kp_bd, kx_r]
    · have e1 : kM (kh_up τ 15 0 0 0 0) (kh_up σ 15 0 0 0 0) := kM_up e 15 0 0 0 rfl
      refine ⟨lv (kh_up τ 15 0 0 0 0) i 2 r, ?_, kM_lv e1 i 2 r, frM_lv (frM_up (frM_rfl τ) (by omega)) i 2 r⟩
      show f_X5_giveUp τ (nI i) = _
      unfold f_X5_giveUp f_X5_giveUp_L29 f_X5_giveUp_L41
      rw [m_isGroup gt, if_neg (no_ix hi (by omega)), kp_bd, if_neg one_ne, kp_gdT (kp_in (show i < 30 by omega) (by omega)), nI_clamp (by omega), e 35 (by omega) (by omega), if_pos hp, m_ref0, kp_bd2, if_pos rfl, m_leaves _ (show i < 30 by omega) (show r < 4 by omega) (by rw [e1 36 (by omega) (by omega)]; exact z1), kp_bd]
  · refine stepVE gg 2 (fun ρ q => ?_) (fun τ gt e => ?_)
    · show f_L_giveUp ρ (nI i) = _
      unfold f_L_giveUp f_X4_giveUp
      rw [c_gn1 q g hi, kp_bxr, kp_gdT (q.i11 g hi), nI_clamp (by omega), (q.g i hi).2.2.2.2.2.1, if_neg hp, kx_l]
      simp only [kE2_3, if_false, if_true]
      rfl
    · show f_X5_giveUp τ (nI i) = _
      unfold f_X5_giveUp f_X5_giveUp_L29 f_X5_giveUp_L41
      rw [m_isGroup gt, if_neg (no_ix hi (by omega)), kp_bd, if_neg one_ne, kp_gdT (kp_in (show i < 30 by omega) (by omega)), nI_clamp (by omega), e 35 (by omega) (by omega), if_neg hp, m_ref2, kp_bd2, if_neg one_ne]
end LEAVE
