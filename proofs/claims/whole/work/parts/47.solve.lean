/-! solve -/
/-- whether a group may solve a puzzle -/
def mayb (σ : kh_S) (i r k : Nat) : Bool := !bt (σ 38 0 0 i) k && wk σ r k && sv (rnd σ r k) (σ 37 0 0 i)
theorem m_maySolve {τ : kh_S} {R G B : Nat} {P : Nat → Nat} (g : good0 τ R G B P) {i r k : Nat} (hi : i < 30) (hr : r < R) (hk : k < P r) (z : τ 36 0 0 i = nI r) : f_X5_maySolve τ (nI i) (nI k) = some (if mayb τ i r k = true then 1 else 0) := by
  have h4 := g.R4
  have h8 := (g.r r hr).2.1
  unfold f_X5_maySolve f_X5_maySolve_L55 f_X5_maySolve_L56
  rw [kp_gdT (kp_in hi (by omega)), nI_clamp (show i < 2 ^ 31 by omega), z, at8, m_isOut g hr hk, kp_bd, kp_gdT (kp_in (show 8 * r + k < 32 by omega) (by omega)), nI_clamp (show 8 * r + k < 2 ^ 31 by omega)]
  unfold mayb
  cases e : bt (τ 38 0 0 i) k with
  | true => rw [if_neg (fun h => by rw [(kp_shrF k (by omega) _).mp h] at e; cases e)]; rfl
  | false =>
    rw [if_pos ((kp_shrF k (by omega) _).mpr e)]
    cases e2 : wk τ r k with
    | false => rfl
    | true =>
      cases e3 : sv (rnd τ r k) (τ 37 0 0 i) with
      | true =>
        have e4 : (τ 30 0 0 (8 * r + k) &&& (τ 37 0 0 i ^^^ (-1))) = 0 := sv_pos e3
        rw [if_pos (show (if true = true then (0 : Int32) else 1) = 0 from rfl), if_pos e4]
        rfl
      | false =>
        have e4 : ¬ (τ 30 0 0 (8 * r + k) &&& (τ 37 0 0 i ^^^ (-1))) = 0 := sv_neg e3
        rw [if_pos (show (if true = true then (0 : Int32) else 1) = 0 from rfl), if_neg e4]
        rfl
theorem mayb_eqv {σ τ : kh_S} (h : eqv σ τ) (i r k : Nat) : mayb τ i r k = mayb σ i r k := by
  have e30 := h.1 30 (by omega) (by omega)
  have e32 := h.1 32 (by omega) (by omega)
  have e37 := h.1 37 (by omega) (by omega)
  have e38 := h.1 38 (by omega) (by omega)
  have s2 := h.2 2 0 0 (by omega)
  simp only [mayb, wk, rpr, rnd, e30, e32, e37, e38, s2]
/-- a puzzle is solved -/
def sol (σ : kh_S) (i r k : Nat) : kh_S := kh_up (kh_up σ 38 0 0 i (σ 38 0 0 i ||| ((1 : Int32) <<< (nI k &&& 31)))) 37 0 0 i (σ 37 0 0 i ||| rgv σ r k)
section SOLVE
variable {ρ σ : kh_S} {R G B : Nat} {P : Nat → Nat}
theorem good0_sol (g : good0 σ R G B P) {i r k : Nat} (hi : i < G) (hr : r < R) (hk : k < P r) (z : σ 36 0 0 i = nI r) : good0 (sol σ i r k) R G B P := by
  have h4 := g.R4
  have h30 := g.G30
  have h8 := (g.r r hr).2.1
  refine ⟨?_, fun r' hr' => ?_, fun r' h1 h2 => ?_, fun r' hr' => ?_, fun g' hg' => ?_, ?_, fun j hj => ?_, ?_, fun b hb => ?_⟩
  · simpa [gS, sol, up_rd] using g.1
  · simpa [gR, sol, up_rd, rpr_up, rtk_up] using g.r r' hr'
  · simpa [sol, up_rd] using g.n r' h1 h2
  · simpa [gP, sol, up_rd] using g.p r' hr'
  · obtain ⟨r', hr', a1, a2, a3⟩ := g.g g' hg'
    refine ⟨r', hr', ?_, ?_, fun h => ?_⟩
    · simpa [sol, up_rd] using a1
    · by_cases e : g' = i
      · subst e
        obtain rfl : r' = r := nI_inj (a1.symm.trans z) (by omega) (by omega)
        have e9 : sol σ g' r' k 38 0 0 g' = σ 38 0 0 g' ||| ((1 : Int32) <<< (nI k &&& 31)) := by simp [sol, up_rd]
        rw [e9]
        intro j hj hb
        rw [b_or, b_bit k (by omega) hj, Bool.or_eq_true] at hb
        rcases hb with hb | hb
        · exact a2 j hj hb
        · have : j = k := of_decide_eq_true hb
          omega
      · simpa [sol, up_rd, e] using a2
    · have h' : σ 35 0 0 g' = 0 := by simpa [sol, up_rd] using h
      simpa [sol, up_rd] using a3 h'
  · simpa [gH, sol, up_rd] using g.h
  · simpa [gW, sol, up_rd] using g.w j hj
  · simpa [gD, sol, up_rd] using g.d
  · simpa [gB, sol, up_rd] using g.b b hb
theorem gQ_sol (gg : good σ R G B P) {i r k : Nat} (hi : i < G) (hr : r < R) (hk : k < P r) (z : σ 36 0 0 i = nI r) {r' : Nat} (hr' : r' < R) (hb : r' = r → bt (σ 37 0 0 i ||| rgv σ r k) 0 = false) : gQ1 (sol σ i r k) P r' ∧ gQ2 (sol σ i r k) P r' := by
  have g := gg.1
  have h4 := g.R4
  have h30 := g.G30
  have h8 := (g.r r hr).2.1
  obtain ⟨q1, q2⟩ := gg.2 r' hr'
  have key : σ 26 0 0 r' = 1 → ∀ g', σ 29 0 0 r' = nI g' → g' < 30 → σ 36 0 0 g' = nI r' := by
    intro h1 g' h2 h3
    rcases g.p r' hr' with ⟨-, g2, hg2, b1, b2, -⟩ | ⟨b, -⟩
    · obtain rfl : g' = g2 := nI_inj (h2.symm.trans b1) (by omega) (by omega)
      exact b2
    · exact absurd h1 b
  refine ⟨fun h1 g' hg' h2 => ?_, fun h1 g' hg' h2 => ?_⟩
  · have h1 : σ 26 0 0 r' = 1 := by simpa [sol, up_rd] using h1
    have h2 : σ 29 0 0 r' = nI g' := by simpa [sol, up_rd] using h2
    obtain ⟨c1, c2⟩ := q1 h1 g' hg' h2
    by_cases e : g' = i
    · subst e
      obtain rfl : r' = r := nI_inj ((key h1 g' h2 hg').symm.trans z) (by omega) (by omega)
      have e9 : sol σ g' r' k 38 0 0 g' = σ 38 0 0 g' ||| ((1 : Int32) <<< (nI k &&& 31)) := by simp [sol, up_rd]
      have e8 : sol σ g' r' k 37 0 0 g' = σ 37 0 0 g' ||| rgv σ r' k := by simp [sol, up_rd]
      have e7 : rgv (sol σ g' r' k) r' = rgv σ r' := by simp [sol, rgv_up]
      rw [e9, e8, e7]
      refine ⟨hb rfl, fun j hj hb => ?_⟩
      rw [b_or, b_bit k (by omega) (by omega), Bool.or_eq_true] at hb
      rcases hb with hb | hb
      · exact sb_tr (c2 j hj hb) (sb_orl _ _)
      · have : j = k := of_decide_eq_true hb
        subst this
        exact sb_orr _ _
    · simpa [sol, up_rd, rgv_up, e] using And.intro c1 c2
  · have h1 : σ 26 0 0 r' = 1 := by simpa [sol, up_rd] using h1
    have h2 : σ 29 0 0 r' = nI g' := by simpa [sol, up_rd] using h2
    have c := q2 h1 g' hg' h2
    have e7 : rgv (sol σ i r k) r' = rgv σ r' := by simp [sol, rgv_up]
    have e6 : rnd (sol σ i r k) r' = rnd σ r' := by simp [sol, rnd_up]
    have e5 : wk (sol σ i r k) r' = wk σ r' := by simp [sol, wk_up]
    rw [e7, e6, e5]
    by_cases e : g' = i
    · subst e
      have e8 : sol σ g' r k 37 0 0 g' = σ 37 0 0 g' ||| rgv σ r k := by simp [sol, up_rd]
      rw [e8]
      exact rch_mono (fun _ _ h => h) (sb_orl _ _) 0 (by omega) c
    · simpa [sol, up_rd, e] using c
theorem relC_sol (q : relC ρ σ R G B P) (g : good0 σ R G B P) {i r k : Nat} (hi : i < G) (hr : r < R) (hk : k < P r) : relC (kh_up (kh_up ρ 11 7 i 0 (σ 38 0 0 i ||| ((1 : Int32) <<< (nI k &&& 31)))) 11 8 i 0 (σ 37 0 0 i ||| rgv σ r k)) (sol σ i r k) R G B P := by
  refine ⟨?_, ?_, fun r' hr' => ?_, fun g' hg' => ?_, fun j hj => ?_, fun b hb => ?_⟩
  · simpa [cS, sol, up_rd] using q.1
  · simpa [cA, up_rd] using q.2.1
  · simpa [cR, sol, up_rd, rnd_up, rgv_up, rpr_up, rtk_up] using q.r r' hr'
  · obtain ⟨w0, w1, w2, w4, w5, w6, w7, w8, w9⟩ := q.g g' hg'
    by_cases e : g' = i
    · subst e
      refine ⟨?_, ?_, ?_, ?_, ?_, ?_, ?_, ?_, fun k hk => ?_⟩
      · simpa [up_rd] using w0
      · simpa [sol, up_rd] using w1
      · simpa [sol, up_rd] using w2
      · simpa [sol, up_rd] using w4
      · simpa [sol, up_rd] using w5
      · simpa [sol, up_rd] using w6
      · simp [sol, up_rd]
      · simp [sol, up_rd]
      · simpa [sol, up_rd] using w9 k hk
    · simpa [cG, sol, up_rd, e] using q.g g' hg'
  · simpa [cW, sol, up_rd] using q.w j hj
  · simpa [cB, sol, up_rd] using q.b b hb
theorem c_openTo (q : relC ρ σ R G B P) (g : good0 σ R G B P) {i r : Nat} (hi : i < G) (hr : r < R) (z : σ 36 0 0 i = nI r) : f_X4_openTo ρ (nI i) = some (bset (wk σ r) (P r) &&& (σ 38 0 0 i ^^^ (-1))) := by
  have h4 := g.R4
  have h30 := g.G30
  obtain ⟨w0, w1, w2, w4, w5, w6, w7, w8, w9⟩ := q.g i hi
  unfold f_X4_openTo
  rw [kp_gdT (q.i11 g hi), nI_clamp (show i < 2 ^ 31 by omega), w1, z, kp_gdT (q.i6 g hr), nI_clamp (show r < 2 ^ 31 by omega), c_wk q g hr, kp_bd, w7]
theorem bt_open {S : Nat → Bool} {p : Nat} (hp : p ≤ 8) (s : Int32) {k : Nat} (hk : k < 32) : bt (bset S p &&& (s ^^^ (-1))) k = (decide (k < p) && S k && !bt s k) := by
  rw [b_and, b_not s hk, bt_bset S p (by omega) k hk]
theorem q_solve (gg : good σ R G B P) (a1 a2 : Int32) : stepOK (fun ρ => f_L_solve ρ a1 a2) (fun τ => f_X5_solve τ a1 a2) σ R G B P := by
  have g := gg.1
  have h4 := g.R4
  have h30 := g.G30
  rcases ix_cases a1 G (by omega) with h | ⟨i, hi, rfl⟩
  · refine stepE gg 1 0 (by decide) (fun ρ q => ?_) (fun τ gt _ => ?_)
    · show f_L_solve ρ a1 a2 = _
      unfold f_L_solve f_X4_solve
      rw [c_gn0 q h, kp_bxl, kx_l, if_pos rfl]
      rfl
    · show f_X5_solve τ a1 a2 = _
      unfold f_X5_solve f_X5_solve_L33 f_X5_solve_L34 f_X5_solve_L67
      rw [m_isGroup gt, if_pos h, kp_bd, if_pos rfl, if_pos rfl, m_ref1, kp_bd2, if_neg one_ne]
  obtain ⟨r, hr, z, zi, zp⟩ := g.g i hi
  have h8 := (g.r r hr).2.1
  rcases ix_cases a2 (P r) (by omega) with h | ⟨k, hk, rfl⟩
  · refine stepE gg 1 0 (by decide) (fun ρ q => ?_) (fun τ gt e => ?_)
    · show f_L_solve ρ (nI i) a2 = _
      unfold f_L_solve f_X4_solve f_X4_solve_L25
      rw [c_gn1 q g hi, kp_bxr, kp_gdT (q.i11 g hi), nI_clamp (show i < 2 ^ 31 by omega), (q.g i hi).2.1, z, kp_gdT (q.i6 g hr), nI_clamp (show r < 2 ^ 31 by omega), (q.r r hr).2.2.1]
      by_cases h0 : a2 < 0
      · rw [if_pos h0, kx_l, if_pos rfl]; rfl
      · rw [if_neg h0, if_neg (Int32.not_lt.mpr (h.resolve_left h0)), kx_l, if_pos rfl]; rfl
    · show f_X5_solve τ (nI i) a2 = _
      unfold f_X5_solve f_X5_solve_L33 f_X5_solve_L34 f_X5_solve_L67
      have h9 : a2 < 0 ∨ nI (P r) - 1 < a2 := by rw [in_hi (by omega)]; exact h
      rw [m_isGroup gt, if_neg (no_ix hi (by omega)), kp_bd, if_neg one_ne, kp_gdT (kp_in (show i < 30 by omega) (by omega)), nI_clamp (show i < 2 ^ 31 by omega), e 36 (by omega) (by omega), z, kp_gdT (kp_in (show r < 4 by omega) (by omega)), nI_clamp (show r < 2 ^ 31 by omega), (gt.r r hr).1, m_in, if_pos h9, kp_bd, if_pos rfl, if_pos rfl, m_ref1, kp_bd2, if_neg one_ne]
  have hin : ¬ (nI k < 0 ∨ nI (P r) - 1 < nI k) := wh_in (by omega) hk
  by_cases hc : σ 35 0 0 i = 0 ∧ mayb σ i r k = true
  · obtain ⟨hp, hm⟩ := hc
    have hm2 := hm
    unfold mayb at hm2
    simp only [Bool.and_eq_true, Bool.not_eq_true'] at hm2
    have g1 := eqv_good (eqv_thr σ 0) gg
    generalize hs : kh_up σ 15 0 0 0 0 = σ1 at g1
    have z1 : σ1 36 0 0 i = nI r := by rw [← hs]; simpa [up_rd] using z
    have hp1 : σ1 35 0 0 i = 0 := by rw [← hs]; simpa [up_rd] using hp
    have t1 : σ1 15 0 0 0 = 0 := by rw [← hs]; exact up_at _ _ _ _ _ _
    have hm1 : mayb σ1 i r k = true := by rw [← hs, mayb_eqv (eqv_thr σ 0)]; exact hm
    have g2 := good0_sol g1.1 hi hr hk z1
    have z2 : sol σ1 i r k 36 0 0 i = nI r := by simpa [sol, up_rd] using z1
    have hp2 : sol σ1 i r k 35 0 0 i = 0 := by simpa [sol, up_rd] using hp1
    have e8 : sol σ1 i r k 37 0 0 i = σ1 37 0 0 i ||| rgv σ1 r k := by simp [sol, up_rd]
    have e9 : sol σ1 i r k 38 0 0 i = σ1 38 0 0 i ||| ((1 : Int32) <<< (nI k &&& 31)) := by simp [sol, up_rd]
    have hC : ∀ ρ, relC ρ σ1 R G B P → ∃ ρ', relC ρ' (sol σ1 i r k) R G B P ∧ frC ρ ρ' ∧ f_L_solve ρ (nI i) (nI k) = kh_hx (kh_bd (f_X4_leaveIfOut ρ' (nI i)) (fun ρ_18 => kh_gd (kh_in (nI i) (kh_n ρ_18 11)) (some (.inr (ρ_18 11 8 i 0, ρ_18))))) (fun E => if E = kh_E3 then some (1 : Int32) else (if E = kh_E2 then some (2 : Int32) else none)) (fun r => some ((0 : Int32), kh_up r.2 60 0 0 (0 : Int32).toNatClampNeg r.1)) := by
      intro ρ q
      refine ⟨_, relC_sol q g1.1 hi hr hk, frC_up (frC_up (frC_rfl ρ) (by omega)) (by omega), ?_⟩
      obtain ⟨w0, w1, w2, w4, w5, w6, w7, w8, w9⟩ := q.g i hi
      have hmq : bt (bset (wk σ1 r) (P r) &&& (σ1 38 0 0 i ^^^ (-1))) k = true := by
        unfold mayb at hm1
        simp only [Bool.and_eq_true, Bool.not_eq_true'] at hm1
        rw [bt_open h8 _ (by omega), decide_eq_true hk, hm1.1.2, hm1.1.1]
        rfl
      have hms : sv (rnd σ1 r k) (σ1 37 0 0 i) = true := by
        unfold mayb at hm1
        simp only [Bool.and_eq_true, Bool.not_eq_true'] at hm1
        exact hm1.2
      unfold f_L_solve f_X4_solve
      rw [c_gn1 q g1.1 hi, kp_bxr, kp_gdT (q.i11 g1.1 hi), nI_clamp (show i < 2 ^ 31 by omega), if_neg (nI_pos (by omega)), w1, z1, kp_gdT (q.i6 g1.1 hr), nI_clamp (show r < 2 ^ 31 by omega), (q.r r hr).2.2.1, if_pos (nI_lt hk (by omega)), w6, if_pos hp1, c_openTo q g1.1 hi hr z1, kp_bd, c_has _ _ (by omega), kp_bd, if_pos hmq, if_neg one_ne, c_isSolvable (q.kR g1.1 hr) hk, kp_bd, w8, if_pos hms, if_neg one_ne, c_with, kp_bd, kp_gdT (kp_in (show k < 8 by omega) (by omega)), nI_clamp (show k < 2 ^ 31 by omega), w7]
      have e7 : (kh_up ρ 11 7 i 0 (σ1 38 0 0 i ||| ((1 : Int32) <<< (nI k &&& 31)))) 11 8 i 0 = σ1 37 0 0 i := by simpa [up_rd] using w8
      have e6 : (kh_up ρ 11 7 i 0 (σ1 38 0 0 i ||| ((1 : Int32) <<< (nI k &&& 31)))) 8 0 r k = rgv σ1 r k := by
        rw [up_k (by decide)]
        exact ((q.r r hr).2.2.2.2.2.2.2.2 k hk).2.1
      rw [e7, e6]
    have hM : ∀ τ, good0 τ R G B P → kM τ σ → ∃ τ', kM τ' (sol σ1 i r k) ∧ frM τ τ' ∧ f_X5_solve τ (nI i) (nI k) = (if (σ1 37 0 0 i ||| rgv σ1 r k) &&& (1 : Int32) = 1 then kh_bd (f_X5_leaves τ' (nI i) 1) (fun ρ_7 => f_X5_solve_L130 ρ_7 (nI i)) else f_X5_solve_L130 τ' (nI i)) := by
      intro τ gt e
      have e1 : kM (kh_up τ 15 0 0 0 0) σ1 := by rw [← hs]; exact kM_up e 15 0 0 0 rfl
      obtain ⟨f15, -, -, -, -, -, -, -, f31, -, -, f35, f36, f37, f38, -⟩ := kM_all e1
      refine ⟨kh_up (kh_up (kh_up τ 15 0 0 0 0) 38 0 0 i (σ1 38 0 0 i ||| ((1 : Int32) <<< (nI k &&& 31)))) 37 0 0 i (σ1 37 0 0 i ||| rgv σ1 r k), kM_up (kM_up e1 38 0 0 i rfl) 37 0 0 i rfl, frM_up (frM_up (frM_up (frM_rfl τ) (by omega)) (by omega)) (by omega), ?_⟩
      unfold f_X5_solve f_X5_solve_L33 f_X5_solve_L34 f_X5_solve_L67
      rw [m_isGroup gt, if_neg (no_ix hi (by omega)), kp_bd, if_neg one_ne, kp_gdT (kp_in (show i < 30 by omega) (by omega)), nI_clamp (show i < 2 ^ 31 by omega), e 36 (by omega) (by omega), z, kp_gdT (kp_in (show r < 4 by omega) (by omega)), nI_clamp (show r < 2 ^ 31 by omega), (gt.r r hr).1, m_in, if_neg hin, kp_bd, if_neg one_ne, if_neg one_ne, kp_gdT (kp_in (show i < 30 by omega) (by omega)), e 35 (by omega) (by omega), if_pos hp, m_maySolve gt (show i < 30 by omega) hr hk (by rw [e 36 (by omega) (by omega)]; exact z), kp_bd, mayb_eqv (eqv_M e), if_pos hm, if_neg one_ne, m_ref0, kp_bd2, if_pos rfl, kp_gdT (kp_in (show i < 30 by omega) (by omega)), f38]
      have v1 : (kh_up (kh_up τ 15 0 0 0 0) 38 0 0 i (σ1 38 0 0 i ||| ((1 : Int32) <<< (nI k &&& 31)))) 36 0 0 i = nI r := by rw [up_k (by decide), f36]; exact z1
      have v2 : (kh_up (kh_up τ 15 0 0 0 0) 38 0 0 i (σ1 38 0 0 i ||| ((1 : Int32) <<< (nI k &&& 31)))) 37 0 0 i = σ1 37 0 0 i := by rw [up_k (by decide), f37]
      have v3 : (kh_up (kh_up τ 15 0 0 0 0) 38 0 0 i (σ1 38 0 0 i ||| ((1 : Int32) <<< (nI k &&& 31)))) 31 0 0 (8 * r + k) = rgv σ1 r k := by rw [up_k (by decide), f31]; rfl
      rw [v1, at8, kp_gdT (kp_in (show 8 * r + k < 32 by omega) (by omega)), nI_clamp (show 8 * r + k < 2 ^ 31 by omega), v2, v3, up_at]
    have b8 : (σ1 37 0 0 i ||| rgv σ1 r k) &&& (1 : Int32) = 1 ↔ bt (σ1 37 0 0 i ||| rgv σ1 r k) 0 = true := kp_a1' _
    cases hb : bt (σ1 37 0 0 i ||| rgv σ1 r k) 0 with
    | true =>
      have g3 : good (lv (sol σ1 i r k) i 1 r) R G B P := ⟨good0_lv g2 hi hr z2 hp2 (by decide), fun r' hr' => ⟨gQ1_lv (fun e => (gQ_sol g1 hi hr hk z1 hr' (fun e2 => absurd e2 e)).1), gQ2_lv (fun e => (gQ_sol g1 hi hr hk z1 hr' (fun e2 => absurd e2 e)).2)⟩⟩
      refine stepG gg g3 (by rw [lv_ne (by omega)]; simpa [sol, up_rd] using t1) (σ1 37 0 0 i ||| rgv σ1 r k) (fun ρ q => ?_) (fun τ gt e => ?_)
      · rw [hs] at q
        obtain ⟨ρ', q', f', e'⟩ := hC ρ q
        obtain ⟨ρ2, h1, h2, h3⟩ := c_leave q' g2 hi hr z2 1
        refine ⟨ρ2, ?_, h2, frC_tr f' h3⟩
        show f_L_solve ρ (nI i) (nI k) = _
        rw [e']
        unfold f_X4_leaveIfOut f_X4_leaveIfOut_L16
        rw [kp_gdT (q'.i11 g2 hi), nI_clamp (show i < 2 ^ 31 by omega), (q'.g i hi).2.2.2.2.2.2.2.1, e8, c_has0, kp_bd, if_pos hb, if_neg one_ne, h1, kp_bd, kp_bd, kp_gdT (h2.i11 g3.1 hi), (h2.g i hi).2.2.2.2.2.2.2.1, lv_ne (by omega), e8, kx_r]
      · obtain ⟨τ', k', f', e'⟩ := hM τ gt e
        refine ⟨lv τ' i 1 r, ?_, kM_lv k' i 1 r, frM_lv f' i 1 r⟩
        show f_X5_solve τ (nI i) (nI k) = _
        rw [e', if_pos (b8.mpr hb), m_leaves _ (show i < 30 by omega) (show r < 4 by omega) (by rw [k' 36 (by omega) (by omega)]; exact z2), kp_bd]
        unfold f_X5_solve_L130
        rw [kp_gdT (kp_in (show i < 30 by omega) (by omega)), nI_clamp (show i < 2 ^ 31 by omega), lv_ne (by omega), k' 37 (by omega) (by omega), e8]
    | false =>
      have g3 : good (sol σ1 i r k) R G B P := ⟨g2, fun r' hr' => gQ_sol g1 hi hr hk z1 hr' (fun _ => hb)⟩
      refine stepG gg g3 (by simpa [sol, up_rd] using t1) (σ1 37 0 0 i ||| rgv σ1 r k) (fun ρ q => ?_) (fun τ gt e => ?_)
      · rw [hs] at q
        obtain ⟨ρ', q', f', e'⟩ := hC ρ q
        refine ⟨ρ', ?_, q', f'⟩
        show f_L_solve ρ (nI i) (nI k) = _
        rw [e']
        unfold f_X4_leaveIfOut f_X4_leaveIfOut_L16
        have hb' : ¬ bt (σ1 37 0 0 i ||| rgv σ1 r k) 0 = true := by rw [hb]; decide
        rw [kp_gdT (q'.i11 g2 hi), nI_clamp (show i < 2 ^ 31 by omega), (q'.g i hi).2.2.2.2.2.2.2.1, e8, c_has0, kp_bd, if_neg hb', if_pos rfl, kp_bd, kp_gdT (q'.i11 g2 hi), (q'.g i hi).2.2.2.2.2.2.2.1, e8, kx_r]
      · obtain ⟨τ', k', f', e'⟩ := hM τ gt e
        refine ⟨τ', ?_, k', f'⟩
        show f_X5_solve τ (nI i) (nI k) = _
        rw [e', if_neg (fun z => by rw [b8.mp z] at hb; cases hb)]
        unfold f_X5_solve_L130
        rw [kp_gdT (kp_in (show i < 30 by omega) (by omega)), nI_clamp (show i < 2 ^ 31 by omega), k' 37 (by omega) (by omega), e8]
  · refine stepE gg 2 0 (by decide) (fun ρ q => ?_) (fun τ gt e => ?_)
    · show f_L_solve ρ (nI i) (nI k) = _
      obtain ⟨w0, w1, w2, w4, w5, w6, w7, w8, w9⟩ := q.g i hi
      unfold f_L_solve f_X4_solve f_X4_solve_L67
      rw [c_gn1 q g hi, kp_bxr, kp_gdT (q.i11 g hi), nI_clamp (show i < 2 ^ 31 by omega), if_neg (nI_pos (by omega)), w1, z, kp_gdT (q.i6 g hr), nI_clamp (show r < 2 ^ 31 by omega), (q.r r hr).2.2.1, if_pos (nI_lt hk (by omega)), w6]
      have hE : kh_hx (some (.inl (kh_E2, ρ))) (fun E => if E = kh_E3 then some (1 : Int32) else (if E = kh_E2 then some (2 : Int32) else none)) (fun r : Int32 × kh_S => some ((0 : Int32), kh_up r.2 60 0 0 (0 : Int32).toNatClampNeg r.1)) = some (2, ρ) := by
        rw [kx_l]
        simp only [kE2_3, if_false, if_true]
        rfl
      by_cases hp : σ 35 0 0 i = 0
      · rw [if_pos hp, c_openTo q g hi hr z, kp_bd, c_has _ _ (by omega), kp_bd]
        cases hb : bt (bset (wk σ r) (P r) &&& (σ 38 0 0 i ^^^ (-1))) k with
        | false => rw [if_pos (by decide)]; exact hE
        | true =>
          rw [if_pos rfl, if_neg one_ne, c_isSolvable (q.kR g hr) hk, kp_bd, w8]
          cases hb2 : sv (rnd σ r k) (σ 37 0 0 i) with
          | false => rw [if_pos (by decide)]; exact hE
          | true =>
            refine absurd ⟨hp, ?_⟩ hc
            rw [bt_open h8 _ (by omega)] at hb
            simp only [Bool.and_eq_true, Bool.not_eq_true', decide_eq_true_eq] at hb
            simp [mayb, hb.1.2, hb.2, hb2]
      · rw [if_neg hp]; exact hE
    · show f_X5_solve τ (nI i) (nI k) = _
      unfold f_X5_solve f_X5_solve_L33 f_X5_solve_L34 f_X5_solve_L62 f_X5_solve_L67
      rw [m_isGroup gt, if_neg (no_ix hi (by omega)), kp_bd, if_neg one_ne, kp_gdT (kp_in (show i < 30 by omega) (by omega)), nI_clamp (show i < 2 ^ 31 by omega), e 36 (by omega) (by omega), z, kp_gdT (kp_in (show r < 4 by omega) (by omega)), nI_clamp (show r < 2 ^ 31 by omega), (gt.r r hr).1, m_in, if_neg hin, kp_bd, if_neg one_ne, if_neg one_ne, kp_gdT (kp_in (show i < 30 by omega) (by omega)), e 35 (by omega) (by omega), m_ref2, kp_bd2, if_neg one_ne]
      by_cases hp : σ 35 0 0 i = 0
      · rw [if_pos hp, m_maySolve gt (show i < 30 by omega) hr hk (by rw [e 36 (by omega) (by omega)]; exact z), kp_bd, mayb_eqv (eqv_M e), if_neg (fun h => hc ⟨hp, h⟩), if_pos rfl]
      · rw [if_neg hp]
end SOLVE
