/-! a minute passes; pass -/
def wkm (P : Nat → Nat) (σ : kh_S) (i : Nat) : kh_S := if σ 43 0 0 i = -1 then σ else if σ 45 0 0 i - 1 = 0 then (if σ 44 0 0 i = -1 then dne (kh_up σ 45 0 0 i (σ 45 0 0 i - 1)) i (σ 43 0 0 i).toNatClampNeg else bg P (kh_up (kh_up σ 45 0 0 i (σ 45 0 0 i - 1)) 27 0 0 (σ 43 0 0 i).toNatClampNeg (σ 27 0 0 (σ 43 0 0 i).toNatClampNeg &&& (((1 : Int32) <<< (σ 44 0 0 i &&& 31)) ^^^ (-1)))) i (σ 43 0 0 i).toNatClampNeg) else kh_up σ 45 0 0 i (σ 45 0 0 i - 1)
def wki (P : Nat → Nat) (σ : kh_S) : Nat → kh_S
  | 0 => σ
  | n + 1 => wkm P (wki P σ n) n
def late (σ : kh_S) (r : Nat) : Bool := decide (σ 26 0 0 r = 1) && !decide (0 < leftm σ (gin σ r))
def ll (σ : kh_S) : Nat → kh_S
  | 0 => σ
  | n + 1 => if late (ll σ n) n = true then lv (ll σ n) (gin (ll σ n) n) 2 n else ll σ n
def gone (σ : kh_S) (b : Nat) : Bool := decide (σ 50 0 0 b = 0) && decide (bmN σ b + 15 ≤ (σ 15 1 0 0).toNatClampNeg)
def drp (σ : kh_S) : Nat → kh_S
  | 0 => σ
  | n + 1 => if gone (drp σ n) n = true then kh_up (drp σ n) 50 0 0 n 2 else drp σ n
def mint (P : Nat → Nat) (R B : Nat) (σ : kh_S) : kh_S := drp (wki P (ll (kh_up σ 15 1 0 0 (σ 15 1 0 0 + 1)) R) 3) B
def pss (P : Nat → Nat) (R B : Nat) (σ : kh_S) : Nat → kh_S
  | 0 => σ
  | n + 1 => mint P R B (pss P R B σ n)
section PASS
variable {ρ σ τ : kh_S} {R G B : Nat} {P : Nat → Nat}
theorem good0i_45 (g : good0 σ R G B P) {i r : Nat} (hi : i < 3) (h43 : σ 43 0 0 i = nI r) (h26 : σ 26 0 0 r = 3) (v : Int32) : good0i (kh_up σ 45 0 0 i v) R G B P i r := by
  refine ⟨?_, fun r' hr' => ?_, fun r' h1 h2 => ?_, fun r' hr' => ?_, fun g' hg' => ?_, ?_, ⟨fun j hj hji => ?_, ?_, ?_, ?_⟩, ?_, fun b hb => ?_⟩
  · simpa [gS, up_rd] using g.1
  · simpa [gR, up_rd, rpr_up, rtk_up] using g.r r' hr'
  · simpa [up_rd] using g.n r' h1 h2
  · simpa [gP, up_rd] using g.p r' hr'
  · simpa [gG, up_rd] using g.g g' hg'
  · simpa [gH, up_rd] using g.h
  · simpa [gW, up_rd, hji] using g.w j hj
  · simpa [up_rd] using (g.w i hi).1
  · simpa [up_rd] using h43
  · simpa [up_rd] using h26
  · simpa [gD, up_rd] using g.d
  · simpa [gB, up_rd] using g.b b hb
theorem good0i_tr {i r : Nat} (g : good0i σ R G B P i r) {v : Int32} (hv : inP v (P r)) : good0i (kh_up σ 27 0 0 r v) R G B P i r := by
  obtain ⟨g1, g2, g3, g4, g5, g6, ⟨g7, g8, g9, g10⟩, g11, g12⟩ := g
  refine ⟨?_, fun r' hr' => ?_, fun r' h1 h2 => ?_, fun r' hr' => ?_, fun g' hg' => ?_, ?_, ⟨fun j hj hji => ?_, ?_, ?_, ?_⟩, ?_, fun b hb => ?_⟩
  · simpa [gS, up_rd] using g1
  · obtain ⟨c1, c2, c3, c4, c5⟩ := g2 r' hr'
    refine ⟨?_, c2, ?_, ?_, ?_⟩
    · simpa [up_rd] using c1
    · simpa [rpr_up, rtk_up] using c3
    · by_cases e : r' = r
      · subst e; simpa [up_rd] using hv
      · simpa [up_rd, e] using c4
    · simpa [up_rd] using c5
  · have h := g3 r' h1 h2
    by_cases e : r' = r
    · subst e
      have hv0 : v = 0 := by
        rw [h.1] at hv
        refine b_eq0.mpr fun k hk => ?_
        cases e2 : bt v k with
        | false => rfl
        | true => exact absurd (hv k hk e2) (by omega)
      simpa [up_rd, hv0] using And.intro h.1 (And.intro h.2.1 (And.intro h.2.2.1 h.2.2.2.2))
    · simpa [up_rd, e] using h
  · simpa [gP, up_rd] using g4 r' hr'
  · simpa [gG, up_rd] using g5 g' hg'
  · simpa [gH, up_rd] using g6
  · simpa [gW, up_rd, hji] using g7 j hj hji
  · simpa [up_rd] using g8
  · simpa [up_rd] using g9
  · simpa [up_rd] using g10
  · simpa [gD, up_rd] using g11
  · simpa [gB, up_rd] using g12 b hb
theorem dne_44 (σ : kh_S) (i r : Nat) (v : Int32) : dne (kh_up σ 44 0 0 i v) i r = dne σ i r := by
  funext k s a b
  simp only [dne, up_rd]
  by_cases h : k = 44 ∧ s = 0 ∧ a = 0 ∧ b = i
  · rw [if_pos h, if_pos h]
  · rw [if_neg h, if_neg h]
    simp only [if_neg h]
theorem dne_ne (σ : kh_S) (i r : Nat) {k : Nat} (h : k ≠ 26 ∧ k ≠ 43 ∧ k ≠ 44) : dne σ i r k = σ k := by
  unfold dne
  rw [up_k h.2.2, up_k h.2.1, up_k h.1]
/-- what a crew member does -/
theorem wk_cases (g : good0 σ R G B P) {i : Nat} (hi : i < 3) : (σ 43 0 0 i = -1) ∨ ∃ r m, r < R ∧ σ 43 0 0 i = nI r ∧ (σ 43 0 0 i).toNatClampNeg = r ∧ σ 26 0 0 r = 3 ∧ 1 ≤ m ∧ m ≤ 10 ∧ σ 45 0 0 i = nI m ∧ σ 45 0 0 i - 1 = nI (m - 1) ∧ (σ 44 0 0 i = -1 ∨ ∃ p, p < P r ∧ σ 44 0 0 i = nI p) := by
  have hR := g.R4
  rcases (g.w i hi).2 with ⟨z, -⟩ | ⟨r, hr, z1, z2, ⟨m, h1, h2, z3⟩, z4⟩
  · exact Or.inl z
  · refine Or.inr ⟨r, m, hr, z1, by rw [z1, nI_clamp (by omega)], z2, h1, h2, z3, ?_, z4⟩
    rw [z3]
    have := nI_pred (m - 1)
    rw [show m - 1 + 1 = m by omega] at this
    exact this
theorem good_wkm (gg : good σ R G B P) {i : Nat} (hi : i < 3) : good (wkm P σ i) R G B P := by
  have g := gg.1
  have hR := g.R4
  unfold wkm
  rcases wk_cases g hi with z | ⟨r, m, hr, z1, z1c, z2, h1, h2, z3, z3m, z4⟩
  · rw [if_pos z]; exact gg
  · have h8 := (g.r r hr).2.1
    rw [if_neg (by rw [z1]; exact nI_m1 (by omega)), z1c, z3m]
    have gi := good0i_45 g hi z1 z2 (nI (m - 1))
    have kne : ∀ k, k ≠ 45 → (kh_up σ 45 0 0 i (nI (m - 1))) k = σ k := fun k h => up_k h
    by_cases hm : nI (m - 1) = 0
    · rw [if_pos hm]
      by_cases hp : σ 44 0 0 i = -1
      · rw [if_pos hp]
        refine ⟨good0_dne gi hR hi hr, fun r' hr' => ?_⟩
        refine gQ_26 (σ := σ) (r := r) (fun r' e => by simp [dne, up_rd, e]) (by simp [dne, up_rd]) ?_ ?_ ?_ ?_ ?_ ?_ ?_ (gg.2 r' hr')
        all_goals (rw [dne_ne _ _ _ (by omega), up_k (by omega)])
      · obtain ⟨p, hp2, xp⟩ := z4.resolve_left hp
        rw [if_neg hp, xp]
        have gi2 := good0i_tr gi (v := σ 27 0 0 r &&& (((1 : Int32) <<< (nI p &&& 31)) ^^^ (-1))) (inP_out (k := p) (g.r r hr).2.2.2.1 (by omega))
        refine ⟨good0_bg gi2 hi hr, fun r' hr' => gQ_bg gi2.2.2.2.2.2.2.1.2.2.2 ?_⟩
        refine gQ_26 (σ := σ) (r := r) (fun r' e => by simp [up_rd]) (by rw [rd_ne (by decide), rd_ne (by decide), z2]; decide) ?_ ?_ ?_ ?_ ?_ ?_ ?_ (gg.2 r' hr')
        all_goals (rw [up_k (by omega), up_k (by omega)])
    · rw [if_neg hm]
      have hm2 : 1 ≤ m - 1 := by
        rcases Nat.eq_zero_or_pos (m - 1) with e | e
        · rw [e] at hm; exact absurd rfl hm
        · exact e
      refine ⟨?_, fun r' hr' => ?_⟩
      · refine ⟨?_, fun r' hr' => ?_, fun r' h1 h2 => ?_, fun r' hr' => ?_, fun g' hg' => ?_, ?_, fun j hj => ?_, ?_, fun b hb => ?_⟩
        · simpa [gS, up_rd] using g.1
        · simpa [gR, up_rd, rpr_up, rtk_up] using g.r r' hr'
        · simpa [up_rd] using g.n r' h1 h2
        · simpa [gP, up_rd] using g.p r' hr'
        · simpa [gG, up_rd] using g.g g' hg'
        · simpa [gH, up_rd] using g.h
        · by_cases e : j = i
          · subst e
            refine ⟨by simpa [up_rd] using (g.w j hj).1, Or.inr ⟨r, hr, ?_, ?_, ⟨m - 1, hm2, by omega, ?_⟩, ?_⟩⟩
            · simpa [up_rd] using z1
            · simpa [up_rd] using z2
            · simp [up_rd]
            · simpa [up_rd] using z4
          · simpa [gW, up_rd, e] using g.w j hj
        · simpa [gD, up_rd] using g.d
        · simpa [gB, up_rd] using g.b b hb
      · refine gQ_26 (σ := σ) (r := r) (fun r' e => by simp [up_rd]) (by rw [rd_ne (by decide), z2]; decide) ?_ ?_ ?_ ?_ ?_ ?_ ?_ (gg.2 r' hr')
        all_goals (rw [up_k (by omega)])
theorem relCi_45 (q : relC ρ σ R G B P) {i r : Nat} (hi : i < 3) (hr : r < 4) (h43 : σ 43 0 0 i = nI r) (v w : Int32) : relCi (kh_up ρ 13 2 i 0 w) (kh_up σ 45 0 0 i v) R G B P i r := by
  refine ⟨?_, ?_, fun r' hr' => ?_, fun g' hg' => ?_, ⟨fun j hj hji => ?_, ?_⟩, fun b hb => ?_⟩
  · simpa [cS, up_rd] using q.1
  · simpa [cA, up_rd] using q.2.1
  · simpa [cR, up_rd, rtk_up, rnd_up, rgv_up, rpr_up] using q.r r' hr'
  · simpa [cG, up_rd] using q.g g' hg'
  · simpa [cW, up_rd, hji] using q.w j hj
  · have := (q.w i hi).2.2.2 r hr h43
    simpa [up_rd] using this
  · simpa [cB, up_rd] using q.b b hb
theorem relCi_tr {i r : Nat} (q : relCi ρ σ R G B P i r) (v : Int32) : relCi (kh_up ρ 6 9 r 0 v) (kh_up σ 27 0 0 r v) R G B P i r := by
  obtain ⟨q1, q2, q3, q4, ⟨q5, q6⟩, q7⟩ := q
  refine ⟨?_, ?_, fun r' hr' => ?_, fun g' hg' => ?_, ⟨fun j hj hji => ?_, ?_⟩, fun b hb => ?_⟩
  · simpa [cS, up_rd] using q1
  · simpa [cA, up_rd] using q2
  · by_cases e : r' = r
    · subst e
      obtain ⟨d0, d1, d6, d7, d8, d9, d10, d12, dk⟩ := q3 r' hr'
      refine ⟨?_, ?_, ?_, ?_, ?_, ?_, ?_, ?_, fun k hk => ?_⟩
      · simpa [up_rd] using d0
      · simpa [up_rd] using d1
      · simpa [up_rd] using d6
      · simpa [up_rd, rtk_up] using d7
      · simpa [up_rd] using d8
      · simp [up_rd]
      · simpa [up_rd] using d10
      · simpa [up_rd] using d12
      · simpa [up_rd, rtk_up, rnd_up, rgv_up, rpr_up] using dk k hk
    · simpa [cR, up_rd, rtk_up, rnd_up, rgv_up, rpr_up, e] using q3 r' hr'
  · simpa [cG, up_rd] using q4 g' hg'
  · simpa [cW, up_rd] using q5 j hj hji
  · simpa [up_rd] using q6
  · simpa [cB, up_rd] using q7 b hb
theorem c_wkm (q : relC ρ σ R G B P) (gg : good σ R G B P) {i : Nat} (hi : i < 3) : ∃ ρ', f_X4_workOneMinute ρ (nI i) = some ρ' ∧ relC ρ' (wkm P σ i) R G B P ∧ frC ρ ρ' := by
  have g := gg.1
  have hR := g.R4
  have hci : (nI i).toNatClampNeg = i := nI_clamp (by omega)
  obtain ⟨w0, w1, w2, w3⟩ := q.w i hi
  unfold f_X4_workOneMinute f_X4_workOneMinute_L64 wkm
  rw [kp_gdT (relC.i13 (ρ := ρ) hi), hci, w0]
  rcases wk_cases g hi with z | ⟨r, m, hr, z1, z1c, z2, h1, h2, z3, z3m, z4⟩
  · rw [if_pos (by rw [z]; decide), if_pos z]
    exact ⟨ρ, rfl, q, frC_rfl ρ⟩
  · have h8 := (g.r r hr).2.1
    have hn1 : ¬ σ 43 0 0 i = -1 := by rw [z1]; exact nI_m1 (by omega)
    have w2' : ρ 13 2 i 0 = nI m := by rw [w2, if_neg hn1, z3]
    have hm1 : nI m - 1 = nI (m - 1) := by rw [← z3]; exact z3m
    rw [if_neg (by rw [z1]; exact nI_pos (by omega)), if_neg hn1, z1c, z3m, w2', hm1, z1, up_at]
    have q1 := relCi_45 q hi (show r < 4 by omega) z1 (nI (m - 1)) (nI (m - 1))
    have gi := good0i_45 g hi z1 z2 (nI (m - 1))
    have e13 : (kh_up ρ 13 2 i 0 (nI (m - 1))) 13 1 i 0 = σ 44 0 0 i := by rw [kh_up_ne (by omega)]; exact w1
    rw [e13]
    by_cases hm : nI (m - 1) = 0
    · have hle : nI (m - 1) ≤ 0 := by rw [hm]; decide
      rw [if_pos hm, if_pos hle]
      by_cases hp : σ 44 0 0 i = -1
      · obtain ⟨ρ', k1, k2, k3⟩ := c_finish q1 gi hi hr 0
        rw [dne_44] at k2
        rw [if_pos hp, if_pos hp, k1, kp_bd]
        exact ⟨ρ', rfl, k2, frC_tr (frC_up (frC_rfl ρ) (by omega)) k3⟩
      · obtain ⟨p, hp2, xp⟩ := z4.resolve_left hp
        have gi2 := good0i_tr gi (v := σ 27 0 0 r &&& (((1 : Int32) <<< (nI p &&& 31)) ^^^ (-1))) (inP_out (k := p) (g.r r hr).2.2.2.1 (by omega))
        have q2 := relCi_tr q1 (σ 27 0 0 r &&& (((1 : Int32) <<< (nI p &&& 31)) ^^^ (-1)))
        obtain ⟨ρ', k1, k2, k3⟩ := c_bg q2 gi2 hi hr
        have e9 : (kh_up ρ 13 2 i 0 (nI (m - 1))) 6 9 r 0 = σ 27 0 0 r := by rw [rd_ne (by decide)]; exact (q.r r hr).2.2.2.2.2.1
        rw [if_neg hp, if_neg hp, xp, kh_n_up (by decide), kp_gdT (q.i6 g hr), e9, c_without, kp_bd, k1, kp_bd]
        exact ⟨ρ', rfl, k2, frC_tr (frC_up (frC_up (frC_rfl ρ) (by omega)) (by omega)) k3⟩
    · have hm2 : 0 < m - 1 := by
        rcases Nat.eq_zero_or_pos (m - 1) with e | e
        · rw [e] at hm; exact absurd rfl hm
        · exact e
      rw [if_neg hm, if_neg (nI_nle hm2 (by omega))]
      refine ⟨_, rfl, ?_, frC_up (frC_rfl ρ) (by omega)⟩
      obtain ⟨a1, a2, a3, a4, ⟨a5, a6⟩, a7⟩ := q1
      refine ⟨a1, a2, a3, a4, fun j hj => ?_, a7⟩
      by_cases e : j = i
      · subst e
        refine ⟨?_, ?_, ?_, fun r' hr' h => ?_⟩
        · simpa [up_rd] using w0
        · simpa [up_rd] using w1
        · simp [up_rd, hn1]
        · have h' : σ 43 0 0 j = nI r' := by simpa [up_rd] using h
          simpa [up_rd] using w3 r' hr' h'
      · exact a5 j hj e
theorem kM_wkm (h : kM τ σ) (i : Nat) : kM (wkm P τ i) (wkm P σ i) := by
  unfold wkm
  rw [h 43 (by omega) (by omega), h 44 (by omega) (by omega), h 45 (by omega) (by omega), h 27 (by omega) (by omega)]
  split
  · exact h
  · split
    · split
      · exact kM_dne (kM_up h 45 0 0 i rfl) _ _
      · exact kM_bg (kM_up (kM_up h 45 0 0 i rfl) 27 0 0 _ rfl) _ _
    · exact kM_up h 45 0 0 i rfl
theorem frM_wkm {a b : kh_S} (h : frM a b) (i : Nat) : frM a (wkm P b i) := by
  unfold wkm
  split
  · exact h
  · split
    · split
      · exact frM_dne (frM_up h (by omega)) _ _
      · exact frM_bg (frM_up (frM_up h (by omega)) (by omega)) _ _
    · exact frM_up h (by omega)
theorem m_wkm (g : good0 τ R G B P) {i : Nat} (hi : i < 3) : f_X5_works τ (nI i) = some (wkm P τ i) := by
  have hR := g.R4
  have hci : (nI i).toNatClampNeg = i := nI_clamp (by omega)
  unfold f_X5_works f_X5_works_L48 f_X5_works_L86 wkm
  rw [kp_gdT (kp_in hi (by omega)), hci, up_at]
  rcases wk_cases g hi with z | ⟨r, m, hr, z1, z1c, z2, h1, h2, z3, z3m, z4⟩
  · rw [if_pos z, if_pos z]
  · have h8 := (g.r r hr).2.1
    have hn1 : ¬ τ 43 0 0 i = -1 := by rw [z1]; exact nI_m1 (by omega)
    have e43 : (kh_up τ 45 0 0 i (τ 45 0 0 i - 1)) 43 0 0 i = nI r := by rw [rd_ne (by decide)]; exact z1
    have e44 : (kh_up τ 45 0 0 i (τ 45 0 0 i - 1)) 44 0 0 i = τ 44 0 0 i := rd_ne (by decide)
    have e27 : (kh_up τ 45 0 0 i (τ 45 0 0 i - 1)) 27 0 0 r = τ 27 0 0 r := rd_ne (by decide)
    have gi := good0i_45 g hi z1 z2 (τ 45 0 0 i - 1)
    rw [if_neg hn1, if_neg hn1, z1c, e43, e44, nI_clamp (show r < 2 ^ 31 by omega), e27, kp_gdT (kp_in hi (by omega)), kp_gdT (kp_in (show r < 4 by omega) (by omega)), m_done _ hi (show r < 4 by omega) e43, kp_bd]
    by_cases hm : τ 45 0 0 i - 1 = 0
    · rw [if_pos hm, if_pos hm, if_pos hm]
      by_cases hp : τ 44 0 0 i = -1
      · rw [if_pos hp, if_pos hp]
      · obtain ⟨p, hp2, xp⟩ := z4.resolve_left hp
        have gi2 := good0i_tr gi (v := τ 27 0 0 r &&& (((1 : Int32) <<< (nI p &&& 31)) ^^^ (-1))) (inP_out (k := p) (g.r r hr).2.2.2.1 (by omega))
        have gr := gi2.2.1 r hr
        rw [if_neg hp, if_neg hp, xp, m_bg (P := P) _ hi (show r < 4 by omega) gi2.2.2.2.2.2.2.1.2.2.1 gr.1 gr.2.1 gr.2.2.2.1 gr.2.2.2.2, kp_bd]
    · rw [if_neg hm, if_neg hm, if_neg hm]
theorem good_wki (g : good σ R G B P) : ∀ n, n ≤ 3 → good (wki P σ n) R G B P
  | 0, _ => g
  | n + 1, hn => good_wkm (good_wki g n (by omega)) (by omega)
/-! groups whose time is over -/
theorem good_ll (g : good σ R G B P) : ∀ n, n ≤ R → good (ll σ n) R G B P
  | 0, _ => g
  | n + 1, hn => by
    have a := good_ll g n (by omega)
    show good (if late (ll σ n) n = true then _ else _) R G B P
    cases e : late (ll σ n) n with
    | true =>
      have h26 : (ll σ n) 26 0 0 n = 1 := by
        unfold late at e
        simp only [Bool.and_eq_true, decide_eq_true_eq] at e
        exact e.1
      obtain ⟨p1, p2, p3, p4⟩ := plays a.1 (show n < R by omega) h26
      rw [if_pos rfl]
      exact good_lv a p1 (by omega) p3 p4 (by decide)
    | false => rw [if_neg (by decide)]; exact a
theorem c_ll (g : good σ R G B P) (q : relC ρ σ R G B P) : ∃ ρ', kh_lp (fun a : kh_S × Int32 => f_X4_passOne_B12 a.1 a.2) 9999 (ρ, (0 : Int32)) = some ρ' ∧ relC ρ' (ll σ R) R G B P ∧ frC ρ ρ' := by
  have h4 := g.1.R4
  have h30 := g.1.G30
  refine kp_lpR R (fun j a => a.2 = nI j ∧ relC a.1 (ll σ j) R G B P ∧ frC ρ a.1) (fun j a hj h => ?_) (fun a h => ?_) 9999 (by omega) (ρ, 0) ⟨rfl, q, frC_rfl ρ⟩
  · obtain ⟨ρ1, y2⟩ := a
    obtain ⟨e1, q1, f1⟩ := h
    dsimp only at e1 q1 f1
    subst e1
    have ga := good_ll g j (by omega)
    show ∃ a', f_X4_passOne_B12 ρ1 (nI j) = some (.inl a') ∧ a'.2 = nI (j + 1) ∧ relC a'.1 (if late (ll σ j) j = true then _ else _) R G B P ∧ frC ρ a'.1
    unfold f_X4_passOne_B12 f_X4_passOne_L39
    have hj1 : ρ1 1 0 0 j = nI j := by rw [q1.2.1.1, if_pos hj]
    rw [q1.1.1, if_neg (nI_ge hj (by omega)), kp_gdT (kp_in (show j < 4 by omega) (by omega)), nI_clamp (show j < 2 ^ 31 by omega), hj1, kp_gdT (q1.i6 ga.1 hj), nI_clamp (show j < 2 ^ 31 by omega), (q1.r j hj).2.2.2.2.2.2.2.1, nI_1]
    rcases ga.1.p j hj with ⟨h26, -⟩ | ⟨h26, h29⟩
    · obtain ⟨p1, p2, p3, p4⟩ := plays ga.1 hj h26
      rw [p2, if_neg (nI_pos (by omega))]
      unfold f_X4_leaveIfLate f_X4_leaveIfLate_L16
      rw [kp_gdT (q1.i11 ga.1 p1), nI_clamp (show gin (ll σ j) j < 2 ^ 31 by omega), c_minutesLeft q1 ga.1 p1, kp_bd]
      by_cases hl : 0 < leftm (ll σ j) (gin (ll σ j) j)
      · have hk : late (ll σ j) j = false := by unfold late; rw [decide_eq_true hl]; simp
        rw [if_pos hl, kp_bd, hk, if_neg (by decide)]
        exact ⟨_, rfl, rfl, q1, f1⟩
      · have hk : late (ll σ j) j = true := by unfold late; rw [decide_eq_false hl, decide_eq_true h26]; rfl
        obtain ⟨ρ2, c1, c2, c3⟩ := c_leave q1 ga.1 p1 hj p3 2
        rw [if_neg hl, c1, kp_bd, kp_bd, hk, if_pos rfl]
        exact ⟨_, rfl, rfl, c2, frC_tr f1 c3⟩
    · have hk : late (ll σ j) j = false := by unfold late; rw [decide_eq_false h26]; rfl
      rw [h29, if_pos (by decide), hk, if_neg (by decide)]
      exact ⟨_, rfl, rfl, q1, f1⟩
  · obtain ⟨ρ1, y2⟩ := a
    obtain ⟨e1, q1, f1⟩ := h
    dsimp only at e1 q1 f1
    subst e1
    refine ⟨ρ1, ?_, q1, f1⟩
    show f_X4_passOne_B12 ρ1 (nI R) = _
    unfold f_X4_passOne_B12
    rw [q1.1.1, if_pos (nI_le (Nat.le_refl _) (by omega))]
theorem leftm_eqv {a b : kh_S} (h : eqv a b) (i : Nat) : leftm b i = leftm a i := by
  unfold leftm
  rw [h.1 40 (by omega) (by omega), h.1 39 (by omega) (by omega), h.2 1 0 0 (by omega)]
theorem m_ll (g : good σ R G B P) (q : kM τ σ) (x y : Int32) : ∃ τ', kh_lp (fun a : kh_S × Int32 => f_X5_pass_B60 x y a.1 a.2) 9999 (τ, (0 : Int32)) = some τ' ∧ kM τ' (ll σ R) ∧ frM τ τ' := by
  have h4 := g.1.R4
  have h30 := g.1.G30
  refine kp_lpR R (fun j a => a.2 = nI j ∧ kM a.1 (ll σ j) ∧ frM τ a.1) (fun j a hj h => ?_) (fun a h => ?_) 9999 (by omega) (τ, 0) ⟨rfl, q, frM_rfl τ⟩
  · obtain ⟨τ1, y2⟩ := a
    obtain ⟨e1, q1, f1⟩ := h
    dsimp only at e1 q1 f1
    subst e1
    have ga := good_ll g j (by omega)
    have gt := eqv_good0 (eqv_M q1) ga.1
    show ∃ a', f_X5_pass_B60 x y τ1 (nI j) = some (.inl a') ∧ a'.2 = nI (j + 1) ∧ kM a'.1 (if late (ll σ j) j = true then _ else _) ∧ frM τ a'.1
    unfold f_X5_pass_B60 f_X5_pass_L102
    rw [gt.1.1, if_neg (nI_ge hj (by omega)), kp_gdT (kp_in (show j < 4 by omega) (by omega)), nI_clamp (show j < 2 ^ 31 by omega), q1 26 (by omega) (by omega), nI_1]
    by_cases h26 : (ll σ j) 26 0 0 j = 1
    · obtain ⟨p1, p2, p3, p4⟩ := plays ga.1 hj h26
      rw [if_pos h26, q1 29 (by omega) (by omega), p2, m_left _ (show gin (ll σ j) j < 30 by omega), kp_bd, leftm_eqv (eqv_M q1)]
      by_cases hl : 0 < leftm (ll σ j) (gin (ll σ j) j)
      · have hk : late (ll σ j) j = false := by unfold late; rw [decide_eq_true hl]; simp
        rw [if_pos hl, hk, if_neg (by decide)]
        exact ⟨_, rfl, rfl, q1, f1⟩
      · have hk : late (ll σ j) j = true := by unfold late; rw [decide_eq_false hl, decide_eq_true h26]; rfl
        rw [if_neg hl, m_leaves _ (show gin (ll σ j) j < 30 by omega) (show j < 4 by omega) (by rw [q1 36 (by omega) (by omega)]; exact p3), kp_bd, hk, if_pos rfl]
        exact ⟨_, rfl, rfl, kM_lv q1 _ _ _, frM_lv f1 _ _ _⟩
    · have hk : late (ll σ j) j = false := by unfold late; rw [decide_eq_false h26]; rfl
      rw [if_neg h26, hk, if_neg (by decide)]
      exact ⟨_, rfl, rfl, q1, f1⟩
  · obtain ⟨τ1, y2⟩ := a
    obtain ⟨e1, q1, f1⟩ := h
    dsimp only at e1 q1 f1
    subst e1
    refine ⟨τ1, ?_, q1, f1⟩
    show f_X5_pass_B60 x y τ1 (nI R) = _
    unfold f_X5_pass_B60
    rw [(eqv_good0 (eqv_M q1) (good_ll g R (Nat.le_refl _)).1).1.1, if_pos (nI_le (Nat.le_refl _) (by omega))]
/-! the crew -/
theorem c_wki (g : good σ R G B P) (q : relC ρ σ R G B P) : ∃ ρ', kh_lp (fun a : kh_S × Int32 => f_X4_passOne_B47 a.1 a.2) 9999 (ρ, (0 : Int32)) = some ρ' ∧ relC ρ' (wki P σ 3) R G B P ∧ frC ρ ρ' := by
  refine kp_lpR 3 (fun j a => a.2 = nI j ∧ relC a.1 (wki P σ j) R G B P ∧ frC ρ a.1) (fun j a hj h => ?_) (fun a h => ?_) 9999 (by omega) (ρ, 0) ⟨rfl, q, frC_rfl ρ⟩
  · obtain ⟨ρ1, y2⟩ := a
    obtain ⟨e1, q1, f1⟩ := h
    dsimp only at e1 q1 f1
    subst e1
    obtain ⟨ρ', k1, k2, k3⟩ := c_wkm q1 (good_wki g j (by omega)) hj
    refine ⟨(ρ', nI (j + 1)), ?_, rfl, k2, frC_tr f1 k3⟩
    show f_X4_passOne_B47 ρ1 (nI j) = _
    unfold f_X4_passOne_B47
    rw [if_neg (show ¬ 3 ≤ nI j from nI_ge (b := 3) hj (by omega)), kp_gdT (kp_in hj (by omega)), nI_clamp (show j < 2 ^ 31 by omega), q1.2.1.2.2.2, if_pos hj, k1, kp_bd, nI_1]
  · obtain ⟨ρ1, y2⟩ := a
    obtain ⟨e1, q1, f1⟩ := h
    dsimp only at e1 q1 f1
    subst e1
    refine ⟨ρ1, ?_, q1, f1⟩
    show f_X4_passOne_B47 ρ1 (nI 3) = _
    unfold f_X4_passOne_B47
    rw [if_pos (by decide)]
theorem m_wki (g : good σ R G B P) (q : kM τ σ) (x y : Int32) : ∃ τ', kh_lp (fun a : kh_S × Int32 => f_X5_pass_B110 x y a.1 a.2) 9999 (τ, (0 : Int32)) = some τ' ∧ kM τ' (wki P σ 3) ∧ frM τ τ' := by
  refine kp_lpR 3 (fun j a => a.2 = nI j ∧ kM a.1 (wki P σ j) ∧ frM τ a.1) (fun j a hj h => ?_) (fun a h => ?_) 9999 (by omega) (τ, 0) ⟨rfl, q, frM_rfl τ⟩
  · obtain ⟨τ1, y2⟩ := a
    obtain ⟨e1, q1, f1⟩ := h
    dsimp only at e1 q1 f1
    subst e1
    refine ⟨(wkm P τ1 j, nI (j + 1)), ?_, rfl, kM_wkm q1 j, frM_wkm f1 j⟩
    show f_X5_pass_B110 x y τ1 (nI j) = _
    unfold f_X5_pass_B110
    rw [if_neg (show ¬ 3 ≤ nI j from nI_ge (b := 3) hj (by omega)), m_wkm (eqv_good0 (eqv_M q1) (good_wki g j (by omega)).1) hj, kp_bd, nI_1]
  · obtain ⟨τ1, y2⟩ := a
    obtain ⟨e1, q1, f1⟩ := h
    dsimp only at e1 q1 f1
    subst e1
    refine ⟨τ1, ?_, q1, f1⟩
    show f_X5_pass_B110 x y τ1 (nI 3) = _
    unfold f_X5_pass_B110
    rw [if_pos (by decide)]
/-! bookings that nobody came for -/
theorem drp_ne (σ : kh_S) {k : Nat} (h : k ≠ 50) : ∀ n, (drp σ n) k = σ k
  | 0 => rfl
  | n + 1 => by
    show (if gone (drp σ n) n = true then kh_up (drp σ n) 50 0 0 n 2 else drp σ n) k = σ k
    split
    · rw [up_k h]; exact drp_ne σ h n
    · exact drp_ne σ h n
theorem good_drp (g : good σ R G B P) (n : Nat) : good (drp σ n) R G B P := good_50 (fun _ h _ => drp_ne σ h n) g
theorem relC_50 (q : relC ρ σ R G B P) (b : Nat) (v : Int32) : relC (kh_up ρ 14 2 b 0 v) (kh_up σ 50 0 0 b v) R G B P := by
  refine ⟨?_, ?_, fun r' hr' => ?_, fun g' hg' => ?_, fun j hj => ?_, fun b' hb' => ?_⟩
  · simpa [cS, up_rd] using q.1
  · simpa [cA, up_rd] using q.2.1
  · simpa [cR, up_rd, rnd_up, rgv_up, rpr_up, rtk_up] using q.r r' hr'
  · simpa [cG, up_rd] using q.g g' hg'
  · simpa [cW, up_rd] using q.w j hj
  · obtain ⟨w0, w1, w2, w3⟩ := q.b b' hb'
    by_cases e : b' = b
    · subst e
      exact ⟨by simpa [up_rd] using w0, by simpa [up_rd] using w1, by simp [up_rd], by simpa [up_rd] using w3⟩
    · simpa [cB, up_rd, e] using q.b b' hb'
theorem now_nI (g : good0 σ R G B P) : ∃ n, n ≤ 5000 ∧ σ 15 1 0 0 = nI n ∧ (σ 15 1 0 0).toNatClampNeg = n := by
  obtain ⟨n, h1, h2⟩ := g.1.2.2.2.2.2.2
  exact ⟨n, h1, h2, by rw [h2, nI_clamp (by omega)]⟩
theorem c_drp (g : good σ R G B P) (q : relC ρ σ R G B P) : ∃ ρ', f_X4_dropUnusedBookings ρ = some ρ' ∧ relC ρ' (drp σ B) R G B P ∧ frC ρ ρ' := by
  have hB := g.1.B30
  have hl : ∃ ρ', kh_lp (fun a : kh_S × Int32 => f_X4_dropUnusedBookings_B2 a.1 a.2) 9999 (ρ, (0 : Int32)) = some ρ' ∧ relC ρ' (drp σ B) R G B P ∧ frC ρ ρ' := by
    refine kp_lpR B (fun j a => a.2 = nI j ∧ relC a.1 (drp σ j) R G B P ∧ frC ρ a.1) (fun j a hj h => ?_) (fun a h => ?_) 9999 (by omega) (ρ, 0) ⟨rfl, q, frC_rfl ρ⟩
    · obtain ⟨ρ1, y2⟩ := a
      obtain ⟨e1, q1, f1⟩ := h
      dsimp only at e1 q1 f1
      subst e1
      have ga := good_drp g j
      obtain ⟨b1, b2, b3, b4, b5, b6, b7⟩ := c_bk q1 ga.1 hj
      obtain ⟨m1, m2⟩ := bm_nI ga.1 hj
      obtain ⟨n, n1, n2, n3⟩ := now_nI ga.1
      show ∃ a', f_X4_dropUnusedBookings_B2 ρ1 (nI j) = some (.inl a') ∧ a'.2 = nI (j + 1) ∧ relC a'.1 (if gone (drp σ j) j = true then _ else _) R G B P ∧ frC ρ a'.1
      unfold f_X4_dropUnusedBookings_B2 f_X4_dropUnusedBookings_L43 gone
      rw [q1.1.2.2.2.2.1, if_neg (nI_ge hj (by omega)), kp_gdT b2, b1, kp_gdT b3, nI_clamp (show j < 2 ^ 31 by omega), b5, b6, q1.1.2.2.2.2.2.2.2, n3, n2, m1, show (15 : Int32) = nI 15 from rfl, nI_add, nI_1]
      by_cases h1 : (drp σ j) 50 0 0 j = 0
      · rw [if_pos h1, decide_eq_true h1]
        by_cases h2 : n < bmN (drp σ j) j + 15
        · rw [if_pos (nI_lt h2 (by omega)), decide_eq_false (by omega : ¬ bmN (drp σ j) j + 15 ≤ n), if_neg (by decide)]
          exact ⟨_, rfl, rfl, q1, f1⟩
        · rw [if_neg (nI_nlt (by omega) (by omega)), decide_eq_true (by omega : bmN (drp σ j) j + 15 ≤ n), if_pos (by decide)]
          exact ⟨_, rfl, rfl, relC_50 q1 j 2, frC_up f1 (by omega)⟩
      · rw [if_neg h1, decide_eq_false h1, if_neg (by simp)]
        exact ⟨_, rfl, rfl, q1, f1⟩
    · obtain ⟨ρ1, y2⟩ := a
      obtain ⟨e1, q1, f1⟩ := h
      dsimp only at e1 q1 f1
      subst e1
      refine ⟨ρ1, ?_, q1, f1⟩
      show f_X4_dropUnusedBookings_B2 ρ1 (nI B) = _
      unfold f_X4_dropUnusedBookings_B2
      rw [q1.1.2.2.2.2.1, if_pos (nI_le (Nat.le_refl _) (by omega))]
  obtain ⟨ρ', k1, k2, k3⟩ := hl
  refine ⟨ρ', ?_, k2, k3⟩
  unfold f_X4_dropUnusedBookings
  rw [k1]
  rfl
theorem kM_same (h : kM τ σ) {k s i j : Nat} {v : Int32} (hv : v = σ k s i j) : kM (kh_up τ k s i j v) σ := by
  intro k' p q
  funext a b c
  by_cases z : k' = k ∧ a = s ∧ b = i ∧ c = j
  · obtain ⟨rfl, rfl, rfl, rfl⟩ := z
    rw [up_at, hv]
  · rw [kh_up_ne z, h k' p q]
theorem m_drp (g : good σ R G B P) (q : kM τ σ) (x y : Int32) : ∃ τ', kh_lp (fun a : kh_S × Int32 => f_X5_pass_B128 x y a.1 a.2) 9999 (τ, (0 : Int32)) = some τ' ∧ kM τ' (drp σ B) ∧ frM τ τ' := by
  have hB := g.1.B30
  refine kp_lpR B (fun j a => a.2 = nI j ∧ kM a.1 (drp σ j) ∧ frM τ a.1) (fun j a hj h => ?_) (fun a h => ?_) 9999 (by omega) (τ, 0) ⟨rfl, q, frM_rfl τ⟩
  · obtain ⟨τ1, y2⟩ := a
    obtain ⟨e1, q1, f1⟩ := h
    dsimp only at e1 q1 f1
    subst e1
    have ga := good_drp g j
    have gt := eqv_good0 (eqv_M q1) ga.1
    obtain ⟨m1, m2⟩ := bm_nI ga.1 hj
    obtain ⟨n, n1, n2, n3⟩ := now_nI ga.1
    show ∃ a', f_X5_pass_B128 x y τ1 (nI j) = some (.inl a') ∧ a'.2 = nI (j + 1) ∧ kM a'.1 (if gone (drp σ j) j = true then _ else _) ∧ frM τ a'.1
    unfold f_X5_pass_B128 f_X5_pass_L170 f_X5_pass_L176 gone
    have hi30 : kh_in (nI j) 30 = true := kp_in (show j < 30 by omega) (by omega)
    rw [gt.1.2.2.2.2.1, if_neg (nI_ge hj (by omega)), kp_gdT hi30, nI_clamp (show j < 2 ^ 31 by omega), q1 50 (by omega) (by omega), q1 15 (by omega) (by omega), q1 49 (by omega) (by omega), n3, n2, m1, kp_gdT hi30, kp_gdT hi30, kp_gdT hi30, nI_1]
    by_cases h1 : (drp σ j) 50 0 0 j = 0
    · have hs := pk_sub_toInt (a := n) (b := bmN (drp σ j) j) (by omega) (by omega)
      rw [if_pos h1, decide_eq_true h1]
      by_cases h2 : n < bmN (drp σ j) j + 15
      · rw [if_pos (by rw [i_lt, hs]; show _ < (15 : Int); omega), decide_eq_false (by omega : ¬ bmN (drp σ j) j + 15 ≤ n), if_neg (by decide)]
        exact ⟨_, rfl, rfl, kM_same q1 rfl, frM_up f1 (by omega)⟩
      · rw [if_neg (by rw [i_lt, hs]; show ¬ (_ < (15 : Int)); omega), decide_eq_true (by omega : bmN (drp σ j) j + 15 ≤ n), if_pos (by decide)]
        exact ⟨_, rfl, rfl, kM_up q1 50 0 0 j rfl, frM_up f1 (by omega)⟩
    · rw [if_neg h1, decide_eq_false h1, if_neg (by simp)]
      exact ⟨_, rfl, rfl, kM_same q1 rfl, frM_up f1 (by omega)⟩
  · obtain ⟨τ1, y2⟩ := a
    obtain ⟨e1, q1, f1⟩ := h
    dsimp only at e1 q1 f1
    subst e1
    refine ⟨τ1, ?_, q1, f1⟩
    show f_X5_pass_B128 x y τ1 (nI B) = _
    unfold f_X5_pass_B128
    rw [(eqv_good0 (eqv_M q1) (good_drp g B).1).1.2.2.2.2.1, if_pos (nI_le (Nat.le_refl _) (by omega))]
/-! a minute -/
theorem good_now (g : good σ R G B P) {n : Nat} (hn : n ≤ 5000) : good (kh_up σ 15 1 0 0 (nI n)) R G B P := by
  have g0 := g.1
  refine ⟨⟨?_, fun r' hr' => ?_, fun r' h1 h2 => ?_, fun r' hr' => ?_, fun g' hg' => ?_, ?_, fun j hj => ?_, ?_, fun b hb => ?_⟩, fun r' hr' => ?_⟩
  · obtain ⟨a1, a2, a3, a4, a5, a6, a7⟩ := g0.1
    exact ⟨by simpa [up_rd] using a1, a2, by simpa [up_rd] using a3, a4, by simpa [up_rd] using a5, a6, n, hn, by simp [up_rd]⟩
  · simpa [gR, up_rd, rpr_up, rtk_up] using g0.r r' hr'
  · simpa [up_rd] using g0.n r' h1 h2
  · simpa [gP, up_rd] using g0.p r' hr'
  · simpa [gG, up_rd] using g0.g g' hg'
  · simpa [gH, up_rd] using g0.h
  · simpa [gW, up_rd] using g0.w j hj
  · simpa [gD, up_rd] using g0.d
  · simpa [gB, up_rd] using g0.b b hb
  · obtain ⟨q1, q2⟩ := g.2 r' hr'
    have w : wk (kh_up σ 15 1 0 0 (nI n)) r' = wk σ r' := by
      funext k
      simp [wk, up_rd, rpr_up]
    refine ⟨?_, ?_⟩
    · simpa [gQ1, up_rd, rgv_up] using q1
    · unfold gQ2
      rw [w]
      simpa [gQ2, up_rd, rgv_up, rnd_up] using q2
theorem relC_now (q : relC ρ σ R G B P) (v : Int32) : relC (kh_up ρ 0 8 0 0 v) (kh_up σ 15 1 0 0 v) R G B P := by
  refine ⟨?_, ?_, fun r' hr' => ?_, fun g' hg' => ?_, fun j hj => ?_, fun b hb => ?_⟩
  · obtain ⟨a1, a2, a3, a4, a5, a6, a7, a8⟩ := q.1
    refine ⟨?_, ?_, ?_, ?_, ?_, ?_, ?_, ?_⟩
    · simpa [up_rd] using a1
    · simpa [up_rd] using a2
    · simpa [up_rd] using a3
    · simpa [up_rd] using a4
    · simpa [up_rd] using a5
    · simpa [up_rd] using a6
    · simpa [up_rd] using a7
    · simp [up_rd]
  · simpa [cA, up_rd] using q.2.1
  · simpa [cR, up_rd, rnd_up, rgv_up, rpr_up, rtk_up] using q.r r' hr'
  · simpa [cG, up_rd] using q.g g' hg'
  · simpa [cW, up_rd] using q.w j hj
  · simpa [cB, up_rd] using q.b b hb
theorem ll_15 (σ : kh_S) : ∀ n, (ll σ n) 15 = σ 15
  | 0 => rfl
  | n + 1 => by
    show (if late (ll σ n) n = true then lv (ll σ n) (gin (ll σ n) n) 2 n else ll σ n) 15 = _
    split
    · rw [lv_ne (by omega)]; exact ll_15 σ n
    · exact ll_15 σ n
theorem wkm_15 (σ : kh_S) (i : Nat) : (wkm P σ i) 15 = σ 15 := by
  unfold wkm
  split
  · rfl
  · split
    · split
      · rw [dne_ne _ _ _ (by omega), up_k (by omega)]
      · rw [bg_ne _ _ _ (by omega), up_k (by omega), up_k (by omega)]
    · rw [up_k (by omega)]
theorem wki_15 (σ : kh_S) : ∀ n, (wki P σ n) 15 = σ 15
  | 0 => rfl
  | n + 1 => (wkm_15 _ n).trans (wki_15 σ n)
theorem mint_15 (σ : kh_S) : (mint P R B σ) 15 = (kh_up σ 15 1 0 0 (σ 15 1 0 0 + 1)) 15 := by
  unfold mint
  rw [drp_ne _ (by omega), wki_15, ll_15]
theorem good_mint (g : good σ R G B P) {n : Nat} (hn : σ 15 1 0 0 = nI n) (h5 : n + 1 ≤ 5000) : good (mint P R B σ) R G B P := by
  unfold mint
  rw [hn, nI_1]
  exact good_drp (good_wki (good_ll (good_now g h5) R (Nat.le_refl _)) 3 (by omega)) B
theorem c_mint (g : good σ R G B P) (q : relC ρ σ R G B P) {n : Nat} (hn : σ 15 1 0 0 = nI n) (h5 : n + 1 ≤ 5000) : ∃ ρ', f_X4_passOne ρ = some ρ' ∧ relC ρ' (mint P R B σ) R G B P ∧ frC ρ ρ' := by
  unfold mint f_X4_passOne
  rw [q.1.2.2.2.2.2.2.2, hn, nI_1]
  have g1 := good_now g h5
  obtain ⟨ρ1, a1, a2, a3⟩ := c_ll g1 (relC_now q (nI (n + 1)))
  have g2 := good_ll g1 R (Nat.le_refl _)
  obtain ⟨ρ2, b1, b2, b3⟩ := c_wki g2 a2
  have g3 := good_wki g2 3 (by omega)
  obtain ⟨ρ3, d1, d2, d3⟩ := c_drp g3 b2
  rw [a1, kp_bd]
  unfold f_X4_passOne_A12 f_X4_passOne_L45
  rw [b1, kp_bd]
  unfold f_X4_passOne_A47 f_X4_passOne_L67
  rw [d1, kp_bd]
  exact ⟨ρ3, rfl, d2, frC_tr (frC_tr (frC_tr (frC_up (frC_rfl ρ) (by omega)) a3) b3) d3⟩
theorem m_mint (g : good σ R G B P) (q : kM τ σ) {n : Nat} (hn : σ 15 1 0 0 = nI n) (h5 : n + 1 ≤ 5000) {x : Int32} {j : Nat} (hx : ¬ x ≤ nI j) : ∃ τ', f_X5_pass_B43 x τ (nI j) = some (.inl (τ', nI (j + 1))) ∧ kM τ' (mint P R B σ) ∧ frM τ τ' := by
  unfold mint f_X5_pass_B43
  rw [if_neg hx, q 15 (by omega) (by omega), hn, nI_1]
  have g1 := good_now g h5
  obtain ⟨τ1, a1, a2, a3⟩ := m_ll g1 (kM_up q 15 1 0 0 rfl : kM (kh_up τ 15 1 0 0 (nI (n + 1))) _) x (nI j)
  have g2 := good_ll g1 R (Nat.le_refl _)
  obtain ⟨τ2, b1, b2, b3⟩ := m_wki g2 a2 x (nI j)
  have g3 := good_wki g2 3 (by omega)
  obtain ⟨τ3, d1, d2, d3⟩ := m_drp g3 b2 x (nI j)
  rw [a1, kp_bd]
  unfold f_X5_pass_A60 f_X5_pass_L108
  rw [b1, kp_bd]
  unfold f_X5_pass_A110 f_X5_pass_L126
  rw [d1, kp_bd]
  unfold f_X5_pass_A128 f_X5_pass_L183
  rw [nI_1]
  exact ⟨τ3, rfl, d2, frM_tr (frM_tr (frM_tr (frM_up (frM_rfl τ) (by omega)) a3) b3) d3⟩
theorem good_pss (g : good σ R G B P) {n : Nat} (hn : σ 15 1 0 0 = nI n) : ∀ j, n + j ≤ 5000 → good (pss P R B σ j) R G B P ∧ (pss P R B σ j) 15 1 0 0 = nI (n + j) ∧ (pss P R B σ j) 15 0 0 0 = σ 15 0 0 0
  | 0, _ => ⟨g, hn, rfl⟩
  | j + 1, hj => by
    obtain ⟨a, b, c⟩ := good_pss g hn j (by omega)
    refine ⟨good_mint a b (by omega), ?_, ?_⟩
    · show mint P R B (pss P R B σ j) 15 1 0 0 = _
      rw [mint_15, up_at, b, nI_1]
      rfl
    · show mint P R B (pss P R B σ j) 15 0 0 0 = _
      rw [mint_15, kh_up_ne (by omega)]
      exact c
theorem q_pass (gg : good σ R G B P) (a1 : Int32) : stepOK (fun ρ => f_L_pass ρ a1) (fun τ => f_X5_pass τ a1) σ R G B P := by
  have g := gg.1
  have h4 := g.R4
  obtain ⟨n, hn5, hn⟩ := g.1.2.2.2.2.2.2
  by_cases h : a1 < 1 ∨ 600 < a1
  · refine stepE gg 1 0 (by decide) (fun ρ q => ?_) (fun τ gt _ => ?_)
    · show f_L_pass ρ a1 = _
      unfold f_L_pass f_X4_pass f_X4_pass_L12
      have hE : kh_hx (some (.inl (kh_E1, ρ))) (fun E => if E = kh_E1 then some (1 : Int32) else (if E = kh_E2 then some (2 : Int32) else none)) (fun r : Int32 × kh_S => some ((0 : Int32), kh_up r.2 60 0 0 (0 : Int32).toNatClampNeg r.1)) = some (1, ρ) := by
        rw [kx_l, if_pos rfl]
        rfl
      by_cases h1 : a1 < 1
      · rw [if_pos h1]; exact hE
      · rw [if_neg h1, if_neg (Int32.not_le.mpr (h.resolve_left h1))]; exact hE
    · show f_X5_pass τ a1 = _
      unfold f_X5_pass f_X5_pass_L33
      rw [m_in, if_pos h, kp_bd, if_pos rfl, m_ref1, kp_bd2, if_neg one_ne]
  have h1 : ¬ a1 < 1 := fun z => h (Or.inl z)
  have h6 : a1 ≤ 600 := Int32.not_lt.mp (fun z => h (Or.inr z))
  have h0 : ¬ a1 < 0 := fun z => h1 (lt_one.mpr (Or.inl z))
  obtain ⟨m, hm, rfl⟩ := nI_of2 (M := 600) (n := 600) rfl h0 h6
  by_cases hc : n + m ≤ 5000
  · have g1 := eqv_good (eqv_thr σ 0) gg
    generalize hs : kh_up σ 15 0 0 0 0 = σ1 at g1
    have t1 : σ1 15 0 0 0 = 0 := by rw [← hs]; exact up_at _ _ _ _ _ _
    have hn1 : σ1 15 1 0 0 = nI n := by rw [← hs, kh_up_ne (by omega)]; exact hn
    obtain ⟨gz, nz, tz⟩ := good_pss g1 hn1 m hc
    have hsum : nI n + nI m ≤ 5000 := by
      rw [nI_add]
      exact nI_le (b := 5000) hc (by omega)
    refine stepG gg gz (by rw [tz]; exact t1) (nI (n + m)) (fun ρ q => ?_) (fun τ gt e => ?_)
    · rw [hs] at q
      have hl : ∃ ρ', kh_lp (fun a : kh_S × Int32 => f_X4_pass_B48 (nI m) a.1 a.2) 9999 (ρ, (0 : Int32)) = some ρ' ∧ relC ρ' (pss P R B σ1 m) R G B P ∧ frC ρ ρ' := by
        refine kp_lpR m (fun j a => a.2 = nI j ∧ relC a.1 (pss P R B σ1 j) R G B P ∧ frC ρ a.1) (fun j a hj h => ?_) (fun a h => ?_) 9999 (by omega) (ρ, 0) ⟨rfl, q, frC_rfl ρ⟩
        · obtain ⟨ρ1, y2⟩ := a
          obtain ⟨e1, q1, f1⟩ := h
          dsimp only at e1 q1 f1
          subst e1
          obtain ⟨ga, na, -⟩ := good_pss g1 hn1 j (by omega)
          obtain ⟨ρ', k1, k2, k3⟩ := c_mint ga q1 na (by omega)
          refine ⟨(ρ', nI (j + 1)), ?_, rfl, k2, frC_tr f1 k3⟩
          show f_X4_pass_B48 (nI m) ρ1 (nI j) = _
          unfold f_X4_pass_B48
          rw [if_neg (nI_ge hj (by omega)), k1, kp_bd, nI_1]
        · obtain ⟨ρ1, y2⟩ := a
          obtain ⟨e1, q1, f1⟩ := h
          dsimp only at e1 q1 f1
          subst e1
          refine ⟨ρ1, ?_, q1, f1⟩
          show f_X4_pass_B48 (nI m) ρ1 (nI m) = _
          unfold f_X4_pass_B48
          rw [if_pos (nI_le (Nat.le_refl _) (by omega))]
      obtain ⟨ρ', k1, k2, k3⟩ := hl
      refine ⟨ρ', ?_, k2, k3⟩
      show f_L_pass ρ (nI m) = _
      unfold f_L_pass f_X4_pass
      rw [if_neg h1, if_pos h6, q.1.2.2.2.2.2.2.2, hn1, if_pos hsum, k1, kp_bd]
      unfold f_X4_pass_A48 f_X4_pass_L63
      rw [kx_r, k2.1.2.2.2.2.2.2.2, nz]
    · have e1 : kM (kh_up τ 15 0 0 0 0) σ1 := by rw [← hs]; exact kM_up e 15 0 0 0 rfl
      have hl : ∃ τ', kh_lp (fun a : kh_S × Int32 => f_X5_pass_B43 (nI m) a.1 a.2) 9999 (kh_up τ 15 0 0 0 0, (0 : Int32)) = some τ' ∧ kM τ' (pss P R B σ1 m) ∧ frM (kh_up τ 15 0 0 0 0) τ' := by
        refine kp_lpR m (fun j a => a.2 = nI j ∧ kM a.1 (pss P R B σ1 j) ∧ frM (kh_up τ 15 0 0 0 0) a.1) (fun j a hj h => ?_) (fun a h => ?_) 9999 (by omega) (kh_up τ 15 0 0 0 0, 0) ⟨rfl, e1, frM_rfl _⟩
        · obtain ⟨τ1, y2⟩ := a
          obtain ⟨e1, q1, f1⟩ := h
          dsimp only at e1 q1 f1
          subst e1
          obtain ⟨ga, na, -⟩ := good_pss g1 hn1 j (by omega)
          obtain ⟨τ', k1, k2, k3⟩ := m_mint ga q1 na (by omega) (x := nI m) (j := j) (nI_ge hj (by omega))
          exact ⟨(τ', nI (j + 1)), k1, rfl, k2, frM_tr f1 k3⟩
        · obtain ⟨τ1, y2⟩ := a
          obtain ⟨e1, q1, f1⟩ := h
          dsimp only at e1 q1 f1
          subst e1
          refine ⟨τ1, ?_, q1, f1⟩
          show f_X5_pass_B43 (nI m) τ1 (nI m) = _
          unfold f_X5_pass_B43
          rw [if_pos (nI_le (Nat.le_refl _) (by omega))]
      obtain ⟨τ', k1, k2, k3⟩ := hl
      refine ⟨τ', ?_, k2, frM_tr (frM_up (frM_rfl τ) (by omega)) k3⟩
      show f_X5_pass τ (nI m) = _
      unfold f_X5_pass f_X5_pass_L33
      rw [m_in, if_neg h, kp_bd, if_neg one_ne, e 15 (by omega) (by omega), hn, if_pos hsum, m_ref0, kp_bd2, if_pos rfl, k1, kp_bd]
      unfold f_X5_pass_A43 f_X5_pass_L189
      rw [k2 15 (by omega) (by omega), nz]
  · have hsum : ¬ nI n + nI m ≤ 5000 := by
      rw [nI_add]
      exact nI_ge (a := 5000) (by omega) (by omega)
    refine stepE gg 2 0 (by decide) (fun ρ q => ?_) (fun τ gt e => ?_)
    · show f_L_pass ρ (nI m) = _
      unfold f_L_pass f_X4_pass
      rw [if_neg h1, if_pos h6, q.1.2.2.2.2.2.2.2, hn, if_neg hsum, kx_l]
      simp only [kE2_1, if_false, if_true]
      rfl
    · show f_X5_pass τ (nI m) = _
      unfold f_X5_pass f_X5_pass_L33
      rw [m_in, if_neg h, kp_bd, if_neg one_ne, e 15 (by omega) (by omega), hn, if_neg hsum, m_ref2, kp_bd2, if_neg one_ne]
end PASS
