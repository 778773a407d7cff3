/-! the class begins with the next thing; reset; forget -/
section RESET
variable {ρ σ τ : kh_S} {R G B : Nat} {P : Nat → Nat}
theorem cS_n6 (q : cS ρ σ R G B) (h : R ≤ 4) : kh_n ρ 6 = R := by
  show (ρ 61 0 0 0).toNatClampNeg = R
  rw [q.2.1, nI_clamp (by omega)]
theorem relCi_kR {i r : Nat} (q : relCi ρ σ R G B P i r) (g : good0i σ R G B P i r) (hr : r < R) : kp_R ρ r (P r) (rnd σ r) (rgv σ r) (rpr σ r) := by
  have c := q.2.2.1 r hr
  have d := g.2.1 r hr
  refine ⟨by rw [cS_n6 q.1 g.1.2.1]; exact hr, c.2.2.1, d.2.1, fun k hk => (c.2.2.2.2.2.2.2.2 k hk).1, fun k hk => (c.2.2.2.2.2.2.2.2 k hk).2.1, fun k hk => (c.2.2.2.2.2.2.2.2 k hk).2.2.1⟩
theorem c_bg0 {i r : Nat} (q : relCi ρ σ R G B P i r) (g : good0i σ R G B P i r) (hr : r < R) : ∃ ρ0, f_X4_beginNext ρ (nI i) (nI r) = f_X4_beginNext_L27 ρ0 (nI i) (nI r) ∧ relCi ρ0 (bg0 σ i r) R G B P i r ∧ frC ρ ρ0 := by
  have hR := g.1.2.1
  have hcr : (nI r).toNatClampNeg = r := nI_clamp (by omega)
  obtain ⟨c0, c1, c6, c7, c8, c9, c10, c12, ck⟩ := q.2.2.1 r hr
  unfold f_X4_beginNext
  rw [cS_n6 q.1 hR, kp_gdT (kp_in hr (by omega)), hcr, c9, q.2.2.2.2.1.2, c10]
  by_cases h : σ 27 0 0 r = 0
  · rw [if_pos h]
    by_cases h2 : σ 46 0 0 i = 0
    · rw [if_pos h2]
      have h0 : bg0 σ i r = σ := if_neg (fun z => z.2.1 h2)
      rw [h0]
      exact ⟨ρ, rfl, q, frC_rfl ρ⟩
    · rw [if_neg h2]
      refine ⟨_, rfl, ?_, frC_up (frC_up (frC_rfl ρ) (by omega)) (by omega)⟩
      have key : ∀ k s i' j, bg0 σ i r k s i' j = (kh_up (kh_up σ 27 0 0 r (σ 28 0 0 r)) 28 0 0 r 0) k s i' j := by
        intro k s i' j
        unfold bg0
        by_cases h3 : σ 28 0 0 r = 0
        · rw [if_neg (fun z => z.2.2 h3)]
          simp only [up_rd]
          split
          · rename_i z
            obtain ⟨rfl, rfl, rfl, rfl⟩ := z
            exact h3
          · split
            · rename_i z
              obtain ⟨rfl, rfl, rfl, rfl⟩ := z
              rw [h, h3]
            · rfl
        · rw [if_pos ⟨h, h2, h3⟩]
      have key2 : bg0 σ i r = kh_up (kh_up σ 27 0 0 r (σ 28 0 0 r)) 28 0 0 r 0 := by
        funext k s i' j
        exact key k s i' j
      rw [key2]
      obtain ⟨q1, q2, q3, q4, ⟨q5, q6⟩, q7⟩ := q
      refine ⟨?_, ?_, fun r' hr' => ?_, fun g' hg' => ?_, ⟨fun j hj hji => ?_, ?_⟩, fun b hb => ?_⟩
      · simpa [cS, up_rd] using q1
      · simpa [cA, up_rd] using q2
      · obtain ⟨d0, d1, d6, d7, d8, d9, d10, d12, dk⟩ := q3 r' hr'
        by_cases e : r' = r
        · subst e
          refine ⟨?_, ?_, ?_, ?_, ?_, ?_, ?_, ?_, fun k hk => ?_⟩
          · simpa [up_rd] using d0
          · simpa [up_rd] using d1
          · simpa [up_rd] using d6
          · simpa [up_rd, rtk_up] using d7
          · simpa [up_rd] using d8
          · simp [up_rd]
          · simp [up_rd]
          · simpa [up_rd] using d12
          · simpa [up_rd, rtk_up, rnd_up, rgv_up, rpr_up] using dk k hk
        · simpa [cR, up_rd, rtk_up, rnd_up, rgv_up, rpr_up, e] using q3 r' hr'
      · simpa [cG, up_rd] using q4 g' hg'
      · simpa [cW, up_rd] using q5 j hj hji
      · simpa [up_rd] using q6
      · simpa [cB, up_rd] using q7 b hb
  · rw [if_neg h]
    have h0 : bg0 σ i r = σ := if_neg (fun z => h z.1)
    rw [h0]
    exact ⟨ρ, rfl, q, frC_rfl ρ⟩
theorem c_begin {i r : Nat} (q : relCi ρ σ R G B P i r) (g : good0i σ R G B P i r) (hi : i < 3) (hr : r < R) (p m : Int32) : ∃ ρ', f_X3_begin ρ i (nI r) p m = some ρ' ∧ relC ρ' (kh_up (kh_up σ 44 0 0 i p) 45 0 0 i m) R G B P ∧ frC ρ ρ' := by
  have hR := g.1.2.1
  obtain ⟨q1, q2, q3, q4, ⟨q5, q6⟩, q7⟩ := q
  obtain ⟨g1, g2, g3, g4, g5, g6, ⟨g7, g8, g9, g10⟩, g11, g12⟩ := g
  unfold f_X3_begin
  rw [kp_gdT (decide_eq_true (show i < kh_n ρ 13 from hi))]
  refine ⟨_, rfl, ?_, frC_up (frC_up (frC_up (frC_rfl ρ) (by omega)) (by omega)) (by omega)⟩
  refine ⟨?_, ?_, fun r' hr' => ?_, fun g' hg' => ?_, fun j hj => ?_, fun b hb => ?_⟩
  · simpa [cS, up_rd] using q1
  · simpa [cA, up_rd] using q2
  · simpa [cR, up_rd, rtk_up, rnd_up, rgv_up, rpr_up] using q3 r' hr'
  · simpa [cG, up_rd] using q4 g' hg'
  · by_cases e : j = i
    · subst e
      have z : ¬ nI r = -1 := nI_m1 (by omega)
      refine ⟨?_, ?_, ?_, fun r' hr' h => ?_⟩
      · simp [up_rd, g9]
      · simp [up_rd]
      · simp [up_rd, g9, z]
      · have h' : σ 43 0 0 j = nI r' := by simpa [up_rd] using h
        obtain rfl : r = r' := nI_inj (g9.symm.trans h') (by omega) (by omega)
        simpa [up_rd] using q6
    · simpa [cW, up_rd, e] using q5 j hj e
  · simpa [cB, up_rd] using q7 b hb
theorem c_finish {i r : Nat} (q : relCi ρ σ R G B P i r) (g : good0i σ R G B P i r) (hi : i < 3) (hr : r < R) (v : Int32) : ∃ ρ', f_X4_finishReset ρ (nI i) (nI r) = some ρ' ∧ relC ρ' (dne (kh_up σ 44 0 0 i v) i r) R G B P ∧ frC ρ ρ' := by
  have hR := g.1.2.1
  have hcr : (nI r).toNatClampNeg = r := nI_clamp (by omega)
  have hci : (nI i).toNatClampNeg = i := nI_clamp (by omega)
  obtain ⟨q1, q2, q3, q4, ⟨q5, q6⟩, q7⟩ := q
  obtain ⟨g1, g2, g3, g4, g5, g6, ⟨g7, g8, g9, g10⟩, g11, g12⟩ := g
  unfold f_X4_finishReset f_X3_stop
  rw [cS_n6 q1 hR, kp_gdT (kp_in hr (by omega)), hcr, kp_gdT (show kh_in (nI i) (kh_n (kh_up ρ 6 8 r 0 0) 13) = true from kp_in (n := 3) hi (by omega)), hci, kp_gdT (decide_eq_true (show i < kh_n (kh_up ρ 6 8 r 0 0) 13 from hi)), kp_bd]
  refine ⟨_, rfl, ?_, frC_up (frC_up (frC_up (frC_up (frC_rfl ρ) (by omega)) (by omega)) (by omega)) (by omega)⟩
  refine ⟨?_, ?_, fun r' hr' => ?_, fun g' hg' => ?_, fun j hj => ?_, fun b hb => ?_⟩
  · simpa [cS, dne, up_rd] using q1
  · simpa [cA, up_rd] using q2
  · by_cases e : r' = r
    · subst e
      obtain ⟨d0, d1, d6, d7, d8, d9, d10, d12, dk⟩ := q3 r' hr'
      refine ⟨?_, ?_, ?_, ?_, ?_, ?_, ?_, ?_, fun k hk => ?_⟩
      · simpa [up_rd] using d0
      · simpa [dne, up_rd] using d1
      · simpa [up_rd] using d6
      · simpa [dne, up_rd, rtk_up] using d7
      · simp [dne, up_rd]
      · simpa [dne, up_rd] using d9
      · simpa [dne, up_rd] using d10
      · simpa [dne, up_rd] using d12
      · simpa [dne, up_rd, rtk_up, rnd_up, rgv_up, rpr_up] using dk k hk
    · simpa [cR, dne, up_rd, rtk_up, rnd_up, rgv_up, rpr_up, e] using q3 r' hr'
  · simpa [cG, dne, up_rd] using q4 g' hg'
  · by_cases e : j = i
    · subst e
      refine ⟨?_, ?_, ?_, fun r' hr' h => ?_⟩
      · simp [dne, up_rd]
      · simp [dne, up_rd]
      · simp [dne, up_rd]
      · have h' : (-1 : Int32) = nI r' := by simpa [dne, up_rd] using h
        exact absurd h'.symm (nI_m1 (by omega))
    · simpa [cW, dne, up_rd, e] using q5 j hj e
  · simpa [cB, dne, up_rd] using q7 b hb
theorem c_bg {i r : Nat} (q : relCi ρ σ R G B P i r) (g : good0i σ R G B P i r) (hi : i < 3) (hr : r < R) : ∃ ρ', f_X4_beginNext ρ (nI i) (nI r) = some ρ' ∧ relC ρ' (bg P σ i r) R G B P ∧ frC ρ ρ' := by
  have hR := g.1.2.1
  have hcr : (nI r).toNatClampNeg = r := nI_clamp (by omega)
  have hci : (nI i).toNatClampNeg = i := nI_clamp (by omega)
  obtain ⟨ρ0, e0, q0, f0⟩ := c_bg0 q g hr
  have g0 := good0i_bg0 g hr
  rw [e0]
  unfold bg
  generalize bg0 σ i r = σ0 at q0 g0
  suffices h : ∃ ρ', f_X4_beginNext_L27 ρ0 (nI i) (nI r) = some ρ' ∧ relC ρ' (bg1 P σ0 i r) R G B P ∧ frC ρ0 ρ' by
    obtain ⟨ρ', h1, h2, h3⟩ := h
    exact ⟨ρ', h1, h2, frC_tr f0 h3⟩
  obtain ⟨c1, h8, c3, c4, c5⟩ := g0.2.1 r hr
  obtain ⟨n1, n2⟩ := nxt_none (σ := σ0) h8 c4
  obtain ⟨d0, d1, d6, d7, d8, d9, d10, d12, dk⟩ := q0.2.2.1 r hr
  unfold f_X4_beginNext_L27 f_X4_beginNext_L76 bg1
  rw [cS_n6 q0.1 hR, kp_gdT (kp_in hr (by omega)), hcr, d9, q0.2.2.2.2.1.2, hci, kp_gdT (show kh_in (nI i) (kh_n ρ0 13) = true from kp_in (n := 3) hi (by omega))]
  by_cases h : σ0 27 0 0 r = 0
  · rw [if_pos h, if_neg (show ¬ (σ0 27 0 0 r ≠ 0) from fun z => z h)]
    by_cases h2 : σ0 46 0 0 i = 0
    · rw [if_pos h2, if_neg (show ¬ (σ0 46 0 0 i ≠ 0) from fun z => z h2)]
      obtain ⟨ρ', h1, h3, h4⟩ := c_finish q0 g0 hi hr (-1)
      rw [h1, kp_bd]
      exact ⟨ρ', rfl, h3, h4⟩
    · rw [if_neg h2, if_pos h2]
      obtain ⟨ρ', h1, h3, h4⟩ := c_begin q0 g0 hi hr (-1) 5
      rw [h1, kp_bd]
      exact ⟨ρ', rfl, h3, h4⟩
  · rw [if_neg h, if_pos h, c_nextToReset (relCi_kR q0 g0 hr), d9, d1, kp_bd]
    have ha : anyb (bt (σ0 27 0 0 r)) (P r) = true := by
      cases e : anyb (bt (σ0 27 0 0 r)) (P r) with
      | true => rfl
      | false => exact absurd ((any_tr h8 c4).mp e) h
    have hx : nrx (nrf (bt (σ0 27 0 0 r)) (nedb (rnd σ0 r) (rgv σ0 r) (σ0 27 0 0 r) (σ0 24 0 0 r) (P r)) 0 (P r)) = nxt P σ0 r := by
      unfold nxt
      rw [nrf_a0 (a1 := -1) ha]
    rw [hx]
    obtain ⟨k, hk, e2⟩ := n2 h
    obtain ⟨ρ', h1, h3, h4⟩ := c_begin q0 g0 hi hr (nI k) (σ0 33 0 0 (8 * r + k))
    rw [e2, nI_clamp (show k < 2 ^ 31 by omega), kp_gdT (kp_in (show k < 8 by omega) (by omega)), (dk k hk).2.2.2, kp_gdT (show kh_in (nI i) (kh_n ρ0 13) = true from kp_in (n := 3) hi (by omega))]
    show ∃ ρ', kh_bd (f_X3_begin ρ0 i (nI r) (nI k) (σ0 33 0 0 (8 * r + k))) _ = _ ∧ _
    rw [h1, kp_bd]
    exact ⟨ρ', rfl, h3, h4⟩
theorem eq_m1_of {x : Int32} {n : Nat} (hn : n < 2 ^ 31) (h : x = -1 ∨ ∃ r, r < n ∧ x = nI r) : (x < 0 ↔ x = -1) := by
  rcases h with h | ⟨r, hr, h⟩
  · subst h; exact ⟨fun _ => rfl, fun _ => by decide⟩
  · subst h
    exact ⟨fun z => absurd z (nI_pos (by omega)), fun z => absurd z (nI_m1 (by omega))⟩
theorem gW_43 (g : good0 σ R G B P) {i : Nat} (hi : i < 3) : σ 43 0 0 i = -1 ∨ ∃ r, r < R ∧ σ 43 0 0 i = nI r := by
  rcases (g.w i hi).2 with ⟨z, -⟩ | ⟨r, hr, z, -⟩
  · exact Or.inl z
  · exact Or.inr ⟨r, hr, z⟩
def rst (σ : kh_S) (i r : Nat) (x : Int32) : kh_S := kh_up (kh_up (kh_up (kh_up σ 26 0 0 r 3) 28 0 0 r 0) 43 0 0 i (nI r)) 46 0 0 i x
theorem good0i_rst (g : good0 σ R G B P) {i r : Nat} (hi : i < 3) (hr : r < R) (h26 : σ 26 0 0 r = 2) (h43 : σ 43 0 0 i = -1) {x : Int32} (hx : x = 0 ∨ x = 1) : good0i (rst σ i r x) R G B P i r := by
  have hR := g.R4
  refine ⟨?_, fun r' hr' => ?_, fun r' h1 h2 => ?_, fun r' hr' => ?_, fun g' hg' => ?_, ?_, ⟨fun j hj hji => ?_, ?_, ?_, ?_⟩, ?_, fun b hb => ?_⟩
  · simpa [gS, rst, up_rd] using g.1
  · obtain ⟨c1, c2, c3, c4, c5⟩ := g.r r' hr'
    refine ⟨?_, c2, ?_, ?_, ?_⟩
    · simpa [rst, up_rd] using c1
    · simpa [rst, rpr_up, rtk_up] using c3
    · simpa [rst, up_rd] using c4
    · by_cases e : r' = r
      · subst e
        have z : rst σ i r' x 28 0 0 r' = 0 := by simp [rst, up_rd]
        rw [z]; exact inP_0 _
      · simpa [rst, up_rd, e] using c5
  · have e : ¬ r' = r := by omega
    simpa [rst, up_rd, e] using g.n r' h1 h2
  · by_cases e : r' = r
    · subst e
      rcases g.p r' hr' with ⟨a, -⟩ | ⟨-, a⟩
      · rw [h26] at a
        exact absurd a (by decide)
      · refine Or.inr ⟨?_, ?_⟩
        · simp [rst, up_rd]
        · simpa [rst, up_rd] using a
    · simpa [gP, rst, up_rd, e] using g.p r' hr'
  · obtain ⟨r', hr', a1, a2, a3⟩ := g.g g' hg'
    refine ⟨r', hr', ?_, ?_, fun h => ?_⟩
    · simpa [rst, up_rd] using a1
    · simpa [rst, up_rd] using a2
    · have h' : σ 35 0 0 g' = 0 := by simpa [rst, up_rd] using h
      obtain ⟨b1, b2⟩ := a3 h'
      have e2 : ¬ r' = r := by
        intro e2; subst e2
        rw [h26] at b1
        exact absurd b1 (by decide)
      refine ⟨?_, ?_⟩
      · simpa [rst, up_rd, e2] using b1
      · simpa [rst, up_rd] using b2
  · simpa [gH, rst, up_rd] using g.h
  · obtain ⟨a0, a⟩ := g.w j hj
    refine ⟨by simpa [rst, up_rd, hji] using a0, ?_⟩
    rcases a with a | ⟨r', hr', b1, b2, b3, b4⟩
    · refine Or.inl ?_
      simpa [rst, up_rd, hji] using a
    · have e2 : ¬ r' = r := by
        intro e2; subst e2
        rw [h26] at b2
        exact absurd b2 (by decide)
      refine Or.inr ⟨r', hr', ?_, ?_, ?_, ?_⟩
      · simpa [rst, up_rd, hji] using b1
      · simpa [rst, up_rd, e2] using b2
      · simpa [rst, up_rd] using b3
      · simpa [rst, up_rd] using b4
  · simpa [rst, up_rd] using hx
  · simp [rst, up_rd]
  · simp [rst, up_rd]
  · have hw : ∀ j, j < 3 → ∀ r', σ 43 0 0 j = nI r' → r' < 4 → ¬ r' = r := by
      intro j hj r' h hr4 e
      subst e
      rcases (g.w j hj).2 with ⟨z, -⟩ | ⟨r2, hr2, z, z2, -⟩
      · exact nI_m1 (by omega) (h.symm.trans z)
      · obtain rfl : r' = r2 := nI_inj (h.symm.trans z) (by omega) (by omega)
        rw [h26] at z2
        exact absurd z2 (by decide)
    intro a b r' ha hb hr' hab h1 h2
    by_cases e : a = i
    · subst e
      have e2 : ¬ b = a := fun z => hab z.symm
      have h1 : nI r = nI r' := by simpa [rst, up_rd] using h1
      have h2 : σ 43 0 0 b = nI r' := by simpa [rst, up_rd, e2] using h2
      exact hw b hb r' h2 hr' (nI_inj h1 (by omega) (by omega)).symm
    · by_cases e2 : b = i
      · subst e2
        have h2 : nI r = nI r' := by simpa [rst, up_rd] using h2
        have h1 : σ 43 0 0 a = nI r' := by simpa [rst, up_rd, e] using h1
        exact hw a ha r' h1 hr' (nI_inj h2 (by omega) (by omega)).symm
      · have h1 : σ 43 0 0 a = nI r' := by simpa [rst, up_rd, e] using h1
        have h2 : σ 43 0 0 b = nI r' := by simpa [rst, up_rd, e2] using h2
        exact g.d a b r' ha hb hr' hab h1 h2
  · simpa [gB, rst, up_rd] using g.b b hb
theorem relCi_rst (q : relC ρ σ R G B P) (g : good0 σ R G B P) {i r : Nat} (hi : i < 3) (hr : r < R) (h26 : σ 26 0 0 r = 2) (x : Int32) : relCi (kh_up (kh_up (kh_up ρ 6 8 r 0 3) 6 10 r 0 0) 6 11 r 0 x) (rst σ i r x) R G B P i r := by
  have hR := g.R4
  refine ⟨?_, ?_, fun r' hr' => ?_, fun g' hg' => ?_, ⟨fun j hj hji => ?_, ?_⟩, fun b hb => ?_⟩
  · simpa [cS, rst, up_rd] using q.1
  · simpa [cA, up_rd] using q.2.1
  · by_cases e : r' = r
    · subst e
      obtain ⟨d0, d1, d6, d7, d8, d9, d10, d12, dk⟩ := q.r r' hr'
      refine ⟨?_, ?_, ?_, ?_, ?_, ?_, ?_, ?_, fun k hk => ?_⟩
      · simpa [up_rd] using d0
      · simpa [rst, up_rd] using d1
      · simpa [up_rd] using d6
      · simpa [rst, up_rd, rtk_up] using d7
      · simp [rst, up_rd]
      · simpa [rst, up_rd] using d9
      · simp [rst, up_rd]
      · simpa [rst, up_rd] using d12
      · simpa [rst, up_rd, rtk_up, rnd_up, rgv_up, rpr_up] using dk k hk
    · simpa [cR, rst, up_rd, rtk_up, rnd_up, rgv_up, rpr_up, e] using q.r r' hr'
  · simpa [cG, rst, up_rd] using q.g g' hg'
  · obtain ⟨w0, w1, w2, w3⟩ := q.w j hj
    refine ⟨?_, ?_, ?_, fun r' hr' h => ?_⟩
    · simpa [rst, up_rd, hji] using w0
    · simpa [rst, up_rd] using w1
    · simpa [rst, up_rd, hji] using w2
    · have h' : σ 43 0 0 j = nI r' := by simpa [rst, up_rd, hji] using h
      have e : ¬ r' = r := by
        intro e; subst e
        rcases (g.w j hj).2 with ⟨z, -⟩ | ⟨r2, hr2, z, z2, -⟩
        · exact nI_m1 (by omega) (h'.symm.trans z)
        · obtain rfl : r' = r2 := nI_inj (h'.symm.trans z) (by omega) (by omega)
          rw [h26] at z2
          exact absurd z2 (by decide)
      simpa [rst, up_rd, e, hji] using w3 r' hr' h'
  · simp [rst, up_rd]
  · simpa [cB, rst, up_rd] using q.b b hb
theorem gQ_26 {σ' : kh_S} {r : Nat} (h : ∀ r', r' ≠ r → σ' 26 0 0 r' = σ 26 0 0 r') (h2 : σ' 26 0 0 r ≠ 1) (e29 : σ' 29 = σ 29) (e30 : σ' 30 = σ 30) (e31 : σ' 31 = σ 31) (e32 : σ' 32 = σ 32) (e37 : σ' 37 = σ 37) (e38 : σ' 38 = σ 38) (e15 : σ' 15 = σ 15) {r' : Nat} (q : gQ1 σ P r' ∧ gQ2 σ P r') : gQ1 σ' P r' ∧ gQ2 σ' P r' := by
  have w : wk σ' r' = wk σ r' := by funext k; simp only [wk, rpr, e32, e15]
  have w1 : rnd σ' r' = rnd σ r' := by funext k; simp only [rnd, e30]
  have w2 : rgv σ' r' = rgv σ r' := by funext k; simp only [rgv, e31]
  have e26 : σ' 26 0 0 r' = 1 → σ 26 0 0 r' = 1 := by
    intro z
    by_cases e : r' = r
    · subst e; exact absurd z h2
    · rw [← h r' e]; exact z
  refine ⟨fun h1 g hg h2 => ?_, fun h1 g hg h2 => ?_⟩
  · rw [e29] at h2
    rw [e37, e38, w2]
    exact q.1 (e26 h1) g hg h2
  · rw [e29] at h2
    rw [e37, w, w1, w2]
    exact q.2 (e26 h1) g hg h2
theorem rst_ne (σ : kh_S) (i r : Nat) (x : Int32) {k : Nat} (h : k ≠ 26 ∧ k ≠ 28 ∧ k ≠ 43 ∧ k ≠ 46) : rst σ i r x k = σ k := by
  unfold rst
  rw [up_k h.2.2.2, up_k h.2.2.1, up_k h.2.1, up_k h.1]
theorem q_reset (gg : good σ R G B P) (a1 a2 x : Int32) (hx : x = 0 ∨ x = 1) : stepV (fun ρ => f_L_reset ρ a1 a2 x) (fun τ => f_X5_reset τ a1 a2 x) σ R G B P := by
  have g := gg.1
  have hR := g.R4
  have hbx : kh_b x = true := by
    rcases hx with h | h
    · subst h; rfl
    · subst h; rfl
  rcases ix_cases a1 R (by omega) with h | ⟨r, hr, rfl⟩
  · refine stepVE gg 1 (fun ρ q => ?_) (fun τ gt _ => ?_)
    · show f_L_reset ρ a1 a2 x = _
      unfold f_L_reset f_X4_reset
      rw [c_rn0 q h, kp_bxl, kx_l, if_pos rfl]
      rfl
    · show f_X5_reset τ a1 a2 x = _
      unfold f_X5_reset f_X5_reset_L19 f_X5_reset_L20 f_X5_reset_L57
      rw [m_isRoom gt, if_pos h, kp_bd, if_pos rfl, if_pos rfl, m_ref1, kp_bd2, if_neg one_ne]
  have hcr : (nI r).toNatClampNeg = r := nI_clamp (by omega)
  rcases ix_cases a2 3 (by omega) with h | ⟨i, hi, rfl⟩
  · refine stepVE gg 1 (fun ρ q => ?_) (fun τ gt _ => ?_)
    · show f_L_reset ρ (nI r) a2 x = _
      unfold f_L_reset f_X4_reset
      rw [c_rn1 q g hr, kp_bxr, c_wn0 h, kp_bxl, kx_l, if_pos rfl]
      rfl
    · show f_X5_reset τ (nI r) a2 x = _
      unfold f_X5_reset f_X5_reset_L19 f_X5_reset_L20 f_X5_reset_L57
      rw [m_isRoom gt, if_neg (no_ix hr (by omega)), kp_bd, if_neg one_ne, m_isCrew, if_pos h, kp_bd, if_pos rfl, if_pos rfl, m_ref1, kp_bd2, if_neg one_ne]
  have hci : (nI i).toNatClampNeg = i := nI_clamp (by omega)
  have hm := eq_m1_of (n := R) (by omega) (gW_43 g hi)
  by_cases hc : σ 26 0 0 r = 2 ∧ σ 43 0 0 i = -1
  · obtain ⟨c1, c2⟩ := hc
    have g1 := eqv_good (eqv_thr σ 0) gg
    generalize hs : kh_up σ 15 0 0 0 0 = σ1 at g1
    have t1 : σ1 15 0 0 0 = 0 := by rw [← hs]; exact up_at _ _ _ _ _ _
    have d1 : σ1 26 0 0 r = 2 := by rw [← hs]; simpa [up_rd] using c1
    have d2 : σ1 43 0 0 i = -1 := by rw [← hs]; simpa [up_rd] using c2
    have gi := good0i_rst g1.1 hi hr d1 d2 hx
    have g3 : good (bg P (rst σ1 i r x) i r) R G B P := ⟨good0_bg gi hi hr, fun r' hr' => gQ_bg gi.2.2.2.2.2.2.1.2.2.2 (gQ_26 (σ := σ1) (r := r) (fun r' e => by simp [rst, up_rd, e]) (by simp [rst, up_rd]) (rst_ne _ _ _ _ (by omega)) (rst_ne _ _ _ _ (by omega)) (rst_ne _ _ _ _ (by omega)) (rst_ne _ _ _ _ (by omega)) (rst_ne _ _ _ _ (by omega)) (rst_ne _ _ _ _ (by omega)) (rst_ne _ _ _ _ (by omega)) (g1.2 r' hr'))⟩
    refine stepGV gg g3 (by rw [bg_ne _ _ _ (by omega), rst_ne _ _ _ _ (by omega)]; exact t1) (fun ρ q => ?_) (fun τ gt e => ?_)
    · rw [hs] at q
      obtain ⟨ρ', k1, k2, k3⟩ := c_bg (relCi_rst q g1.1 hi hr d1 x) gi hi hr
      refine ⟨ρ', ?_, k2, frC_tr (frC_up (frC_up (frC_up (frC_rfl ρ) (by omega)) (by omega)) (by omega)) k3⟩
      show f_L_reset ρ (nI r) (nI i) x = _
      unfold f_L_reset f_X4_reset
      rw [c_rn1 q g1.1 hr, kp_bxr, c_wn1 q hi, kp_bxr, kp_gdT (q.i6 g1.1 hr), hcr, (q.r r hr).2.2.2.2.1, if_pos d1, kp_gdT (relC.i13 (ρ := ρ) hi), hci, (q.w i hi).1, d2, if_pos (by decide), kp_gdT hbx, k1, kp_bd, kx_r]
    · have e1 : kM (kh_up τ 15 0 0 0 0) σ1 := by rw [← hs]; exact kM_up e 15 0 0 0 rfl
      have e2 : kM (rst (kh_up τ 15 0 0 0 0) i r x) (rst σ1 i r x) := kM_up (kM_up (kM_up (kM_up e1 26 0 0 r rfl) 28 0 0 r rfl) 43 0 0 i rfl) 46 0 0 i rfl
      have f2 : frM τ (rst (kh_up τ 15 0 0 0 0) i r x) := frM_up (frM_up (frM_up (frM_up (frM_up (frM_rfl τ) (by omega)) (by omega)) (by omega)) (by omega)) (by omega)
      refine ⟨bg P (rst (kh_up τ 15 0 0 0 0) i r x) i r, ?_, kM_bg e2 i r, frM_bg f2 i r⟩
      show f_X5_reset τ (nI r) (nI i) x = _
      have gr := gi.2.1 r hr
      unfold f_X5_reset f_X5_reset_L20 f_X5_reset_L57
      rw [m_isRoom gt, if_neg (no_ix hr (by omega)), kp_bd, if_neg one_ne, m_isCrew, if_neg (no_ix hi (by omega)), kp_bd, if_neg one_ne, if_neg one_ne, kp_gdT (kp_in (show r < 4 by omega) (by omega)), hcr, e 26 (by omega) (by omega), if_pos c1, kp_gdT (kp_in hi (by omega)), hci, e 43 (by omega) (by omega), c2, if_pos rfl, m_ref0, kp_bd2, if_pos rfl, kp_gdT (kp_in (show r < 4 by omega) (by omega)), kp_gdT (kp_in hi (by omega)), kp_gdT hbx]
      show kh_bd (f_X5_begins (rst (kh_up τ 15 0 0 0 0) i r x) (nI i)) _ = _
      rw [m_bg (P := P) _ hi (show r < 4 by omega) (by rw [e2 43 (by omega) (by omega)]; exact gi.2.2.2.2.2.2.1.2.2.1) (by rw [e2 25 (by omega) (by omega)]; exact gr.1) gr.2.1 (by rw [e2 27 (by omega) (by omega)]; exact gr.2.2.2.1) (by rw [e2 28 (by omega) (by omega)]; exact gr.2.2.2.2), kp_bd]
  · refine stepVE gg 2 (fun ρ q => ?_) (fun τ gt e => ?_)
    · show f_L_reset ρ (nI r) (nI i) x = _
      unfold f_L_reset f_X4_reset f_X4_reset_L31
      have hE : kh_hx (some (.inl (kh_E2, ρ))) (fun E => if E = kh_E3 then some (1 : Int32) else (if E = kh_E2 then some (2 : Int32) else none)) (fun r : kh_S => some ((0 : Int32), r)) = some (2, ρ) := by
        rw [kx_l]
        simp only [kE2_3, if_false, if_true]
        rfl
      rw [c_rn1 q g hr, kp_bxr, c_wn1 q hi, kp_bxr, kp_gdT (q.i6 g hr), hcr, (q.r r hr).2.2.2.2.1, kp_gdT (relC.i13 (ρ := ρ) hi), hci, (q.w i hi).1]
      by_cases c1 : σ 26 0 0 r = 2
      · rw [if_pos c1, if_neg (fun z => hc ⟨c1, hm.mp z⟩)]
        exact hE
      · rw [if_neg c1]
        exact hE
    · show f_X5_reset τ (nI r) (nI i) x = _
      unfold f_X5_reset f_X5_reset_L20 f_X5_reset_L52 f_X5_reset_L57
      rw [m_isRoom gt, if_neg (no_ix hr (by omega)), kp_bd, if_neg one_ne, m_isCrew, if_neg (no_ix hi (by omega)), kp_bd, if_neg one_ne, if_neg one_ne, kp_gdT (kp_in (show r < 4 by omega) (by omega)), hcr, e 26 (by omega) (by omega), kp_gdT (kp_in hi (by omega)), hci, e 43 (by omega) (by omega), m_ref2, kp_bd2, if_neg one_ne]
      by_cases c1 : σ 26 0 0 r = 2
      · rw [if_pos c1, if_neg (fun z => hc ⟨c1, z⟩)]
      · rw [if_neg c1]
/-- a puzzle counts as reset -/
def rdn (σ : kh_S) (r p : Nat) : kh_S := kh_up σ 27 0 0 r (σ 27 0 0 r &&& (((1 : Int32) <<< (nI p &&& 31)) ^^^ (-1)))
theorem good0i_27 (g : good0 σ R G B P) {i r : Nat} (hi : i < 3) (h43 : σ 43 0 0 i = nI r) (h26 : σ 26 0 0 r = 3) {v w : Int32} (hr : r < R) (hv : inP v (P r)) (hw : inP w (P r)) : good0i (kh_up (kh_up σ 27 0 0 r v) 28 0 0 r w) R G B P i r := by
  refine ⟨?_, fun r' hr' => ?_, fun r' h1 h2 => ?_, fun r' hr' => ?_, fun g' hg' => ?_, ?_, ⟨fun j hj hji => ?_, ?_, ?_, ?_⟩, ?_, fun b hb => ?_⟩
  · simpa [gS, up_rd] using g.1
  · obtain ⟨c1, c2, c3, c4, c5⟩ := g.r r' hr'
    refine ⟨?_, c2, ?_, ?_, ?_⟩
    · simpa [up_rd] using c1
    · simpa [rpr_up, rtk_up] using c3
    · by_cases e : r' = r
      · subst e; simpa [up_rd] using hv
      · simpa [up_rd, e] using c4
    · by_cases e : r' = r
      · subst e; simpa [up_rd] using hw
      · simpa [up_rd, e] using c5
  · have e : ¬ r' = r := by omega
    simpa [up_rd, e] using g.n r' h1 h2
  · simpa [gP, up_rd] using g.p r' hr'
  · simpa [gG, up_rd] using g.g g' hg'
  · simpa [gH, up_rd] using g.h
  · simpa [gW, up_rd] using g.w j hj
  · simpa [up_rd] using (g.w i hi).1
  · simpa [up_rd] using h43
  · simpa [up_rd] using h26
  · simpa [gD, up_rd] using g.d
  · simpa [gB, up_rd] using g.b b hb
theorem inP_out {x : Int32} {p k : Nat} (h : inP x p) (hk : k < 32) : inP (x &&& (((1 : Int32) <<< (nI k &&& 31)) ^^^ (-1))) p := by
  intro i hi hb
  rw [b_and, Bool.and_eq_true] at hb
  exact h i hi hb.1
theorem inP_in {x : Int32} {p k : Nat} (h : inP x p) (hk : k < p) (hk2 : k < 32) : inP (x ||| ((1 : Int32) <<< (nI k &&& 31))) p := by
  intro i hi hb
  rw [b_or, b_bit k hk2 hi, Bool.or_eq_true] at hb
  rcases hb with hb | hb
  · exact h i hi hb
  · have := of_decide_eq_true hb
    omega
theorem q_forget (gg : good σ R G B P) (a1 : Int32) : stepOK (fun ρ => f_L_forget ρ a1) (fun τ => f_X5_forget τ a1) σ R G B P := by
  have g := gg.1
  have hR := g.R4
  rcases ix_cases a1 3 (by omega) with h | ⟨i, hi, rfl⟩
  · refine stepE gg 1 0 (by decide) (fun ρ q => ?_) (fun τ gt _ => ?_)
    · show f_L_forget ρ a1 = _
      unfold f_L_forget f_X4_forget
      rw [c_wn0 h, kp_bxl, kx_l, if_pos rfl]
      rfl
    · show f_X5_forget τ a1 = _
      unfold f_X5_forget f_X5_forget_L29
      rw [m_isCrew, if_pos h, kp_bd, if_pos rfl, m_ref1, kp_bd2, if_neg one_ne]
  have hci : (nI i).toNatClampNeg = i := nI_clamp (by omega)
  have hm := eq_m1_of (n := R) (by omega) (gW_43 g hi)
  by_cases hc : σ 44 0 0 i = -1
  · refine stepE gg 2 0 (by decide) (fun ρ q => ?_) (fun τ gt e => ?_)
    · show f_L_forget ρ (nI i) = _
      unfold f_L_forget f_X4_forget f_X4_forget_L27
      have hE : kh_hx (some (.inl (kh_E2, ρ))) (fun E => if E = kh_E3 then some (1 : Int32) else (if E = kh_E2 then some (2 : Int32) else none)) (fun r : Int32 × kh_S => some ((0 : Int32), kh_up r.2 60 0 0 (0 : Int32).toNatClampNeg r.1)) = some (2, ρ) := by
        rw [kx_l]
        simp only [kE2_3, if_false, if_true]
        rfl
      rw [c_wn1 q hi, kp_bxr, kp_gdT (relC.i13 (ρ := ρ) hi), hci, (q.w i hi).1, (q.w i hi).2.1]
      by_cases c1 : σ 43 0 0 i < 0
      · rw [if_pos c1]; exact hE
      · rw [if_neg c1, if_pos hc]; exact hE
    · show f_X5_forget τ (nI i) = _
      unfold f_X5_forget f_X5_forget_L29
      rw [m_isCrew, if_neg (no_ix hi (by omega)), kp_bd, if_neg one_ne, kp_gdT (kp_in hi (by omega)), hci, e 44 (by omega) (by omega), if_pos hc, m_ref2, kp_bd2, if_neg one_ne]
  · have g1 := eqv_good (eqv_thr σ 0) gg
    generalize hs : kh_up σ 15 0 0 0 0 = σ1 at g1
    have t1 : σ1 15 0 0 0 = 0 := by rw [← hs]; exact up_at _ _ _ _ _ _
    have hc1 : ¬ σ1 44 0 0 i = -1 := by rw [← hs, rd_ne (by decide)]; exact hc
    rcases (g1.1.w i hi).2 with ⟨-, z⟩ | ⟨r, hr, x1, x2, x3, x4⟩
    · exact absurd z hc1
    obtain ⟨p, hp, xp⟩ := x4.resolve_left hc1
    have h8 := (g1.1.r r hr).2.1
    have hcr : (nI r).toNatClampNeg = r := nI_clamp (by omega)
    have gi := good0i_27 g1.1 hi x1 x2 hr (inP_out (k := p) (g1.1.r r hr).2.2.2.1 (by omega)) (inP_in (k := p) (g1.1.r r hr).2.2.2.2 hp (by omega))
    generalize hσ2 : kh_up (kh_up σ1 27 0 0 r (σ1 27 0 0 r &&& (((1 : Int32) <<< (nI p &&& 31)) ^^^ (-1)))) 28 0 0 r (σ1 28 0 0 r ||| ((1 : Int32) <<< (nI p &&& 31))) = σ2 at gi
    have kne : ∀ k, k ≠ 27 → k ≠ 28 → σ2 k = σ1 k := fun k h1 h2 => by rw [← hσ2, up_k h2, up_k h1]
    have g3 : good (bg P σ2 i r) R G B P := ⟨good0_bg gi hi hr, fun r' hr' => gQ_bg gi.2.2.2.2.2.2.1.2.2.2 (gQ_26 (σ := σ1) (r := r) (fun r' e => by rw [kne 26 (by omega) (by omega)]) (by rw [kne 26 (by omega) (by omega), x2]; decide) (kne _ (by omega) (by omega)) (kne _ (by omega) (by omega)) (kne _ (by omega) (by omega)) (kne _ (by omega) (by omega)) (kne _ (by omega) (by omega)) (kne _ (by omega) (by omega)) (kne _ (by omega) (by omega)) (g1.2 r' hr'))⟩
    refine stepG gg g3 (by rw [bg_ne _ _ _ (by omega), kne _ (by omega) (by omega)]; exact t1) (nI p) (fun ρ q => ?_) (fun τ gt e => ?_)
    · rw [hs] at q
      obtain ⟨d0, d1, d6, d7, d8, d9, d10, d12, dk⟩ := q.r r hr
      have qi : relCi (kh_up (kh_up ρ 6 10 r 0 (σ1 28 0 0 r ||| ((1 : Int32) <<< (nI p &&& 31)))) 6 9 r 0 (σ1 27 0 0 r &&& (((1 : Int32) <<< (nI p &&& 31)) ^^^ (-1)))) σ2 R G B P i r := by
        rw [← hσ2]
        refine ⟨?_, ?_, fun r' hr' => ?_, fun g' hg' => ?_, ⟨fun j hj hji => ?_, ?_⟩, fun b hb => ?_⟩
        · simpa [cS, up_rd] using q.1
        · simpa [cA, up_rd] using q.2.1
        · by_cases e : r' = r
          · subst e
            refine ⟨?_, ?_, ?_, ?_, ?_, ?_, ?_, ?_, fun k hk => ?_⟩
            · simpa [up_rd] using d0
            · simpa [up_rd] using d1
            · simpa [up_rd] using d6
            · simpa [up_rd, rtk_up] using d7
            · simpa [up_rd] using d8
            · simp [up_rd]
            · simp [up_rd]
            · simpa [up_rd] using d12
            · simpa [up_rd, rtk_up, rnd_up, rgv_up, rpr_up] using dk k hk
          · simpa [cR, up_rd, rtk_up, rnd_up, rgv_up, rpr_up, e] using q.r r' hr'
        · simpa [cG, up_rd] using q.g g' hg'
        · simpa [cW, up_rd] using q.w j hj
        · have := (q.w i hi).2.2.2 r (by omega) x1
          simpa [up_rd] using this
        · simpa [cB, up_rd] using q.b b hb
      obtain ⟨ρ', k1, k2, k3⟩ := c_bg qi gi hi hr
      refine ⟨ρ', ?_, k2, frC_tr (frC_up (frC_up (frC_rfl ρ) (by omega)) (by omega)) k3⟩
      show f_L_forget ρ (nI i) = _
      unfold f_L_forget f_X4_forget
      have e9 : (kh_up ρ 6 10 r 0 (σ1 28 0 0 r ||| ((1 : Int32) <<< (nI p &&& 31)))) 6 9 r 0 = σ1 27 0 0 r := by rw [kh_up_ne (by omega)]; exact d9
      rw [c_wn1 q hi, kp_bxr, kp_gdT (relC.i13 (ρ := ρ) hi), hci, (q.w i hi).1, (q.w i hi).2.1, x1, xp, if_neg (nI_pos (by omega)), if_neg (nI_m1 (by omega)), kp_gdT (q.i6 g1.1 hr), hcr, d10, c_with, kp_bd, e9, c_without, kp_bd, k1, kp_bd, kx_r]
    · have e1 : kM (kh_up τ 15 0 0 0 0) σ1 := by rw [← hs]; exact kM_up e 15 0 0 0 rfl
      have e2 : kM (kh_up (kh_up (kh_up τ 15 0 0 0 0) 27 0 0 r (σ1 27 0 0 r &&& (((1 : Int32) <<< (nI p &&& 31)) ^^^ (-1)))) 28 0 0 r (σ1 28 0 0 r ||| ((1 : Int32) <<< (nI p &&& 31)))) σ2 := by
        rw [← hσ2]
        exact kM_up (kM_up e1 27 0 0 r rfl) 28 0 0 r rfl
      have f2 : frM τ (kh_up (kh_up (kh_up τ 15 0 0 0 0) 27 0 0 r (σ1 27 0 0 r &&& (((1 : Int32) <<< (nI p &&& 31)) ^^^ (-1)))) 28 0 0 r (σ1 28 0 0 r ||| ((1 : Int32) <<< (nI p &&& 31)))) := frM_up (frM_up (frM_up (frM_rfl τ) (by omega)) (by omega)) (by omega)
      refine ⟨_, ?_, kM_bg e2 i r, frM_bg f2 i r⟩
      show f_X5_forget τ (nI i) = _
      have gr := gi.2.1 r hr
      unfold f_X5_forget f_X5_forget_L29
      have e8 : (kh_up (kh_up τ 15 0 0 0 0) 27 0 0 r (σ1 27 0 0 r &&& (((1 : Int32) <<< (nI p &&& 31)) ^^^ (-1)))) 28 0 0 r = σ1 28 0 0 r := by rw [rd_ne (by decide), e1 28 (by omega) (by omega)]
      rw [m_isCrew, if_neg (no_ix hi (by omega)), kp_bd, if_neg one_ne, kp_gdT (kp_in hi (by omega)), hci, e 44 (by omega) (by omega), if_neg hc, m_ref0, kp_bd2, if_pos rfl, kp_gdT (kp_in hi (by omega)), e1 43 (by omega) (by omega), x1, kp_gdT (kp_in (show r < 4 by omega) (by omega)), hcr, e1 27 (by omega) (by omega), e1 44 (by omega) (by omega), xp, e8, m_bg (P := P) _ hi (show r < 4 by omega) (by rw [e2 43 (by omega) (by omega)]; exact gi.2.2.2.2.2.2.1.2.2.1) (by rw [e2 25 (by omega) (by omega)]; exact gr.1) gr.2.1 (by rw [e2 27 (by omega) (by omega)]; exact gr.2.2.2.1) (by rw [e2 28 (by omega) (by omega)]; exact gr.2.2.2.2), kp_bd]
end RESET
