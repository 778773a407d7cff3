/-! prop -/
/-- a loop by a relation on its states -/
theorem kp_lpR {α β : Type} {f : α → Option (α ⊕ β)} {Q : β → Prop} : ∀ (N : Nat) (I : Nat → α → Prop), (∀ j a, j < N → I j a → ∃ a', f a = some (.inl a') ∧ I (j + 1) a') → (∀ a, I N a → ∃ b, f a = some (.inr b) ∧ Q b) → ∀ n, N < n → ∀ a, I 0 a → ∃ b, kh_lp f n a = some b ∧ Q b
  | 0, I, _, he, n, hn, a, h0 => by
    obtain ⟨m, rfl⟩ : ∃ m, n = m + 1 := ⟨n - 1, by omega⟩
    obtain ⟨b, e, hq⟩ := he a h0
    refine ⟨b, ?_, hq⟩
    unfold kh_lp
    rw [e]
  | N + 1, I, h, he, n, hn, a, h0 => by
    obtain ⟨m, rfl⟩ : ∃ m, n = m + 1 := ⟨n - 1, by omega⟩
    obtain ⟨a', e, h1⟩ := h 0 a (by omega) h0
    obtain ⟨b, e2, hq⟩ := kp_lpR N (fun j => I (j + 1)) (fun j a hj => h (j + 1) a (by omega)) he m (by omega) a' h1
    refine ⟨b, ?_, hq⟩
    unfold kh_lp
    rw [e]
    exact e2
def gin (σ : kh_S) (r : Nat) : Nat := (σ 29 0 0 r).toNatClampNeg
/-- a group that can't get out any more -/
def lockd (σ : kh_S) (P : Nat → Nat) (r : Nat) : Bool := decide (σ 26 0 0 r = 1) && !bt (rch (wk σ r) (rnd σ r) (rgv σ r) (P r) (σ 37 0 0 (gin σ r))) 0
def fr (P : Nat → Nat) (σ : kh_S) : Nat → kh_S × Int32
  | 0 => (σ, 0)
  | r + 1 => if lockd (fr P σ r).1 P r = true then (lv (fr P σ r).1 (gin (fr P σ r).1 r) 3 r, (fr P σ r).2 + 1) else fr P σ r
section PROP
variable {ρ σ τ : kh_S} {R G B : Nat} {P : Nat → Nat}
/-- who plays in a room -/
theorem plays (g : good0 σ R G B P) {r : Nat} (hr : r < R) (h : σ 26 0 0 r = 1) : gin σ r < G ∧ σ 29 0 0 r = nI (gin σ r) ∧ σ 36 0 0 (gin σ r) = nI r ∧ σ 35 0 0 (gin σ r) = 0 := by
  have h30 := g.G30
  rcases g.p r hr with ⟨-, i, hi, a, b, c⟩ | ⟨a, -⟩
  · have e : gin σ r = i := by unfold gin; rw [a, nI_clamp (by omega)]
    rw [e]
    exact ⟨hi, a, b, c⟩
  · exact absurd h a
theorem gQ2_of (g : good0 σ R G B P) {r : Nat} (hr : r < R) (h : lockd σ P r = false) : gQ2 σ P r := by
  have h30 := g.G30
  intro h1 i hi h2
  obtain ⟨p1, p2, p3, p4⟩ := plays g hr h1
  obtain rfl : gin σ r = i := nI_inj (p2.symm.trans h2) (by omega) (by omega)
  unfold lockd at h
  rw [decide_eq_true h1, Bool.true_and] at h
  simpa using h
theorem lockd_of (g : good0 σ R G B P) {r : Nat} (hr : r < R) (h : gQ2 σ P r) : lockd σ P r = false := by
  have h30 := g.G30
  unfold lockd
  by_cases h1 : σ 26 0 0 r = 1
  · obtain ⟨p1, p2, p3, p4⟩ := plays g hr h1
    rw [h h1 (gin σ r) (by omega) p2]
    simp
  · rw [decide_eq_false h1]
    rfl
theorem fr_good (g : good0 σ R G B P) (h1 : ∀ r, r < R → gQ1 σ P r) : ∀ n, n ≤ R → good0 (fr P σ n).1 R G B P ∧ (∀ r, r < R → gQ1 (fr P σ n).1 P r) ∧ ∀ r, r < n → gQ2 (fr P σ n).1 P r
  | 0, _ => ⟨g, h1, fun r hr => by omega⟩
  | n + 1, hn => by
    obtain ⟨a, b, c⟩ := fr_good g h1 n (by omega)
    show good0 (if lockd (fr P σ n).1 P n = true then _ else _ : kh_S × Int32).1 R G B P ∧ (∀ r, r < R → gQ1 (if lockd (fr P σ n).1 P n = true then _ else _ : kh_S × Int32).1 P r) ∧ ∀ r, r < n + 1 → gQ2 (if lockd (fr P σ n).1 P n = true then _ else _ : kh_S × Int32).1 P r
    cases e : lockd (fr P σ n).1 P n with
    | true =>
      rw [if_pos rfl]
      have h26 : (fr P σ n).1 26 0 0 n = 1 := by
        unfold lockd at e
        simp only [Bool.and_eq_true, decide_eq_true_eq] at e
        exact e.1
      obtain ⟨p1, p2, p3, p4⟩ := plays a (show n < R by omega) h26
      refine ⟨good0_lv a p1 (by omega) p3 p4 (by decide), fun r hr => gQ1_lv (fun _ => b r hr), fun r hr => gQ2_lv (fun z => c r (by omega))⟩
    | false =>
      rw [if_neg (by decide)]
      refine ⟨a, b, fun r hr => ?_⟩
      by_cases e2 : r = n
      · subst e2; exact gQ2_of a (by omega) e
      · exact c r (by omega)
theorem fr_none (g : good σ R G B P) : ∀ n, n ≤ R → fr P σ n = (σ, 0)
  | 0, _ => rfl
  | n + 1, hn => by
    show (if lockd (fr P σ n).1 P n = true then _ else _) = _
    rw [fr_none g n (by omega), lockd_of g.1 (show n < R by omega) (g.2 n (by omega)).2, if_neg (by decide)]
theorem fr_15 (σ : kh_S) (P : Nat → Nat) : ∀ n, (fr P σ n).1 15 = σ 15
  | 0 => rfl
  | n + 1 => by
    show (if lockd (fr P σ n).1 P n = true then _ else _ : kh_S × Int32).1 15 = _
    split
    · show lv (fr P σ n).1 (gin (fr P σ n).1 n) 3 n 15 = _
      rw [lv_ne (by omega), fr_15 σ P n]
    · exact fr_15 σ P n
theorem c_free (g : good0 σ R G B P) (h1 : ∀ r, r < R → gQ1 σ P r) (q : relC ρ σ R G B P) : ∃ ρ', f_X4_freeLockedIn ρ = some ((fr P σ R).2, ρ') ∧ relC ρ' (fr P σ R).1 R G B P ∧ frC ρ ρ' := by
  have h4 := g.R4
  have h30 := g.G30
  have hl : ∃ b : kh_S × Int32, kh_lp (fun a : kh_S × Int32 × Int32 => f_X4_freeLockedIn_B4 a.1 a.2.1 a.2.2) 9999 (ρ, (0 : Int32), (0 : Int32)) = some b ∧ (b.2 = (fr P σ R).2 ∧ relC b.1 (fr P σ R).1 R G B P ∧ frC ρ b.1) := by
    refine kp_lpR R (fun j a => a.2.2 = nI j ∧ a.2.1 = (fr P σ j).2 ∧ relC a.1 (fr P σ j).1 R G B P ∧ frC ρ a.1) (fun j a hj h => ?_) (fun a h => ?_) 9999 (by omega) (ρ, 0, 0) ⟨rfl, rfl, q, frC_rfl ρ⟩
    · obtain ⟨ρ1, y1, y2⟩ := a
      obtain ⟨e1, e2, q1, f1⟩ := h
      dsimp only at e1 e2 q1 f1
      subst e1 e2
      obtain ⟨ga, gb, -⟩ := fr_good g h1 j (by omega)
      show ∃ a', f_X4_freeLockedIn_B4 ρ1 (fr P σ j).2 (nI j) = some (.inl a') ∧ a'.2.2 = nI (j + 1) ∧ a'.2.1 = (if lockd (fr P σ j).1 P j = true then _ else _ : kh_S × Int32).2 ∧ relC a'.1 (if lockd (fr P σ j).1 P j = true then _ else _ : kh_S × Int32).1 R G B P ∧ frC ρ a'.1
      unfold f_X4_freeLockedIn_B4 f_X4_freeLockedIn_L63
      have hj1 : ρ1 1 0 0 j = nI j := by rw [q1.2.1.1, if_pos hj]
      rw [q1.1.1, if_neg (nI_ge hj (by omega)), kp_gdT (kp_in (show j < 4 by omega) (by omega)), nI_clamp (show j < 2 ^ 31 by omega), hj1, kp_gdT (q1.i6 ga hj), nI_clamp (show j < 2 ^ 31 by omega), (q1.r j hj).2.2.2.2.2.2.2.1, nI_1]
      rcases ga.p j hj with ⟨h26, -⟩ | ⟨h26, h29⟩
      · obtain ⟨p1, p2, p3, p4⟩ := plays ga hj h26
        have e37 := (q1.g _ p1).2.2.2.2.2.2.2.1
        rw [p2, if_neg (nI_pos (by omega)), kp_gdT (q1.i11 ga p1), nI_clamp (show gin (fr P σ j).1 j < 2 ^ 31 by omega), c_wk q1 ga hj, kp_bd, e37, c_reachW q1 ga hj, kp_bd, c_has0, kp_bd]
        cases e : bt (rch (wk (fr P σ j).1 j) (rnd (fr P σ j).1 j) (rgv (fr P σ j).1 j) (P j) ((fr P σ j).1 37 0 0 (gin (fr P σ j).1 j))) 0 with
        | true =>
          have hk : lockd (fr P σ j).1 P j = false := by unfold lockd; rw [e]; simp
          rw [hk, if_pos rfl, if_neg one_ne, if_neg (by decide)]
          exact ⟨_, rfl, rfl, rfl, q1, f1⟩
        | false =>
          have hk : lockd (fr P σ j).1 P j = true := by unfold lockd; rw [e, decide_eq_true h26]; rfl
          obtain ⟨ρ2, c1, c2, c3⟩ := c_leave q1 ga p1 hj p3 3
          rw [hk, if_pos (by decide), c1, kp_bd, if_pos rfl]
          exact ⟨_, rfl, rfl, rfl, c2, frC_tr f1 c3⟩
      · have hk : lockd (fr P σ j).1 P j = false := by unfold lockd; rw [decide_eq_false h26]; rfl
        rw [h29, if_pos (by decide), hk, if_neg (by decide)]
        exact ⟨_, rfl, rfl, rfl, q1, f1⟩
    · obtain ⟨ρ1, y1, y2⟩ := a
      obtain ⟨e1, e2, q1, f1⟩ := h
      have e1 : y2 = nI R := e1
      subst e1
      refine ⟨(ρ1, y1), ?_, e2, q1, f1⟩
      show f_X4_freeLockedIn_B4 ρ1 y1 (nI R) = _
      unfold f_X4_freeLockedIn_B4
      have q1 : relC ρ1 (fr P σ R).1 R G B P := q1
      rw [q1.1.1, if_pos (nI_le (Nat.le_refl _) (by omega))]
  obtain ⟨⟨ρ', y⟩, e, e2, e3, e4⟩ := hl
  have e2 : y = (fr P σ R).2 := e2
  subst e2
  refine ⟨ρ', ?_, e3, e4⟩
  unfold f_X4_freeLockedIn
  rw [e]
  rfl
theorem m_free (g : good0 σ R G B P) (h1 : ∀ r, r < R → gQ1 σ P r) (q : kM τ σ) : ∃ τ', kh_lp (fun a : kh_S × Int32 × Int32 => f_X5_prop_B77 1 0 a.1 a.2.1 a.2.2) 9999 (τ, (0 : Int32), (0 : Int32)) = some (τ', (fr P σ R).2) ∧ kM τ' (fr P σ R).1 ∧ frM τ τ' := by
  have h4 := g.R4
  have h30 := g.G30
  have hl : ∃ b : kh_S × Int32, kh_lp (fun a : kh_S × Int32 × Int32 => f_X5_prop_B77 1 0 a.1 a.2.1 a.2.2) 9999 (τ, (0 : Int32), (0 : Int32)) = some b ∧ (b.2 = (fr P σ R).2 ∧ kM b.1 (fr P σ R).1 ∧ frM τ b.1) := by
    refine kp_lpR R (fun j a => a.2.2 = nI j ∧ a.2.1 = (fr P σ j).2 ∧ kM a.1 (fr P σ j).1 ∧ frM τ a.1) (fun j a hj h => ?_) (fun a h => ?_) 9999 (by omega) (τ, 0, 0) ⟨rfl, rfl, q, frM_rfl τ⟩
    · obtain ⟨τ1, y1, y2⟩ := a
      obtain ⟨e1, e2, q1, f1⟩ := h
      dsimp only at e1 e2 q1 f1
      subst e1 e2
      obtain ⟨ga, gb, -⟩ := fr_good g h1 j (by omega)
      have gt := eqv_good0 (eqv_M q1) ga
      obtain ⟨f15, -, -, f26, -, -, f29, f30, f31, f32, -, f35, f36, f37, f38, -⟩ := kM_all q1
      show ∃ a', f_X5_prop_B77 1 0 τ1 (fr P σ j).2 (nI j) = some (.inl a') ∧ a'.2.2 = nI (j + 1) ∧ a'.2.1 = (if lockd (fr P σ j).1 P j = true then _ else _ : kh_S × Int32).2 ∧ kM a'.1 (if lockd (fr P σ j).1 P j = true then _ else _ : kh_S × Int32).1 ∧ frM τ a'.1
      unfold f_X5_prop_B77 f_X5_prop_L143
      rw [gt.1.1, if_neg (nI_ge hj (by omega)), if_neg one_ne, if_pos rfl, kp_gdT (kp_in (show j < 4 by omega) (by omega)), nI_clamp (show j < 2 ^ 31 by omega), f26, nI_1]
      by_cases h26 : (fr P σ j).1 26 0 0 j = 1
      · obtain ⟨p1, p2, p3, p4⟩ := plays ga hj h26
        have w : wk τ1 j = wk (fr P σ j).1 j := by funext k; simp only [wk, rpr, f15, f32]
        have w1 : rnd τ1 j = rnd (fr P σ j).1 j := by funext k; simp only [rnd, f30]
        have w2 : rgv τ1 j = rgv (fr P σ j).1 j := by funext k; simp only [rgv, f31]
        rw [if_pos h26, f29, p2, kp_gdT (kp_in (show gin (fr P σ j).1 j < 30 by omega) (by omega)), nI_clamp (show gin (fr P σ j).1 j < 2 ^ 31 by omega), m_hadOf gt hj, kp_bd, w, w1, w2, f37]
        cases e : bt (rch (wk (fr P σ j).1 j) (rnd (fr P σ j).1 j) (rgv (fr P σ j).1 j) (P j) ((fr P σ j).1 37 0 0 (gin (fr P σ j).1 j))) 0 with
        | true =>
          have hk : lockd (fr P σ j).1 P j = false := by unfold lockd; rw [e]; simp
          rw [hk, if_neg (fun z => by rw [(kp_a1 _).mp z] at e; cases e), if_neg (by decide)]
          exact ⟨_, rfl, rfl, rfl, q1, f1⟩
        | false =>
          have hk : lockd (fr P σ j).1 P j = true := by unfold lockd; rw [e, decide_eq_true h26]; rfl
          rw [hk, if_pos ((kp_a1 _).mpr e), m_leaves _ (show gin (fr P σ j).1 j < 30 by omega) (show j < 4 by omega) (by rw [f36]; exact p3), kp_bd, if_pos rfl]
          exact ⟨_, rfl, rfl, rfl, kM_lv q1 _ _ _, frM_lv f1 _ _ _⟩
      · have hk : lockd (fr P σ j).1 P j = false := by unfold lockd; rw [decide_eq_false h26]; rfl
        rw [if_neg h26, hk, if_neg (by decide)]
        exact ⟨_, rfl, rfl, rfl, q1, f1⟩
    · obtain ⟨τ1, y1, y2⟩ := a
      obtain ⟨e1, e2, q1, f1⟩ := h
      have e1 : y2 = nI R := e1
      subst e1
      refine ⟨(τ1, y1), ?_, e2, q1, f1⟩
      show f_X5_prop_B77 1 0 τ1 y1 (nI R) = _
      unfold f_X5_prop_B77
      have q1 : kM τ1 (fr P σ R).1 := q1
      rw [(eqv_good0 (eqv_M q1) (fr_good g h1 R (Nat.le_refl _)).1).1.1, if_pos (nI_le (Nat.le_refl _) (by omega))]
  obtain ⟨⟨τ', y⟩, e, e2, e3, e4⟩ := hl
  have e2 : y = (fr P σ R).2 := e2
  subst e2
  exact ⟨τ', e, e3, e4⟩
/-- another set of broken props -/
theorem good0_br (g : good0 σ R G B P) (v : Int32) : good0 (kh_up σ 15 2 0 0 v) R G B P := by
  refine ⟨?_, fun r' hr' => ?_, fun r' h1 h2 => ?_, fun r' hr' => ?_, fun g' hg' => ?_, ?_, fun j hj => ?_, ?_, fun b hb => ?_⟩
  · simpa [gS, up_rd] using g.1
  · simpa [gR, up_rd, rpr_up, rtk_up] using g.r r' hr'
  · simpa [up_rd] using g.n r' h1 h2
  · simpa [gP, up_rd] using g.p r' hr'
  · simpa [gG, up_rd] using g.g g' hg'
  · simpa [gH, up_rd] using g.h
  · simpa [gW, up_rd] using g.w j hj
  · simpa [gD, up_rd] using g.d
  · simpa [gB, up_rd] using g.b b hb
theorem gQ1_br {r : Nat} (h : gQ1 σ P r) (v : Int32) : gQ1 (kh_up σ 15 2 0 0 v) P r := by
  simpa [gQ1, up_rd, rgv_up] using h
theorem relC_br (q : relC ρ σ R G B P) (v : Int32) : relC (kh_up ρ 0 7 0 0 v) (kh_up σ 15 2 0 0 v) R G B P := by
  refine ⟨?_, ?_, fun r' hr' => ?_, fun g' hg' => ?_, fun j hj => ?_, fun b hb => ?_⟩
  · obtain ⟨a1, a2, a3, a4, a5, a6, a7, a8⟩ := q.1
    refine ⟨?_, ?_, ?_, ?_, ?_, ?_, ?_, ?_⟩
    · simpa [up_rd] using a1
    · simpa [up_rd] using a2
    · simpa [up_rd] using a3
    · simpa [up_rd] using a4
    · simpa [up_rd] using a5
    · simpa [up_rd] using a6
    · simp [up_rd]
    · simpa [up_rd] using a8
  · simpa [cA, up_rd] using q.2.1
  · simpa [cR, up_rd, rnd_up, rgv_up, rpr_up, rtk_up] using q.r r' hr'
  · simpa [cG, up_rd] using q.g g' hg'
  · simpa [cW, up_rd] using q.w j hj
  · simpa [cB, up_rd] using q.b b hb
theorem wk_br (v : Int32) (r k : Nat) : wk (kh_up σ 15 2 0 0 v) r k = !outp v (rpr σ r k) := by
  show (!outp (kh_up σ 15 2 0 0 v 15 2 0 0) (rpr (kh_up σ 15 2 0 0 v) r k)) = _
  rw [up_at, rpr_up (by decide)]
theorem q_prop (gg : good σ R G B P) (a1 a2 : Int32) : stepOK (fun ρ => f_L_prop ρ a1 (if a2 = 0 then (0 : Int32) else 1)) (fun τ => f_X5_prop τ a1 (if a2 = 0 then (0 : Int32) else 1)) σ R G B P := by
  have g := gg.1
  have h4 := g.R4
  have h30 := g.G30
  rcases wh_cases a1 8 (by omega) with ⟨h, h'⟩ | ⟨p, hp, rfl⟩
  · have h2 : a1 < 0 ∨ 8 ≤ a1 := by
      rcases h with h | h
      · exact Or.inl h
      · exact Or.inr ((in_hi (n := 8) (by omega) a1).mp h)
    refine stepE gg 1 0 (by decide) (fun ρ q => ?_) (fun τ gt _ => ?_)
    · show f_L_prop ρ a1 _ = _
      unfold f_L_prop f_X4_prop
      rw [c_isProp, if_pos h2, kp_bd, if_pos rfl, kx_l, if_pos rfl]
      rfl
    · show f_X5_prop τ a1 _ = _
      unfold f_X5_prop f_X5_prop_L16
      rw [m_in, if_pos (show a1 < 0 ∨ 7 < a1 from h), kp_bd, if_pos rfl, m_ref1, kp_bd2, if_neg one_ne]
  have hp1 : ¬ (nI p < 0 ∨ 8 ≤ nI p) := no_ix (n := 8) hp (by omega)
  have hp2 : ¬ (nI p < 0 ∨ 7 < nI p) := wh_in (n := 8) (by omega) hp
  have g1 := eqv_good (eqv_thr σ 0) gg
  generalize hs : kh_up σ 15 0 0 0 0 = σ1 at g1
  have t1 : σ1 15 0 0 0 = 0 := by rw [← hs]; exact up_at _ _ _ _ _ _
  by_cases ha : a2 = 0
  · -- mended
    have g2 : good (kh_up σ1 15 2 0 0 (σ1 15 2 0 0 &&& (((1 : Int32) <<< (nI p &&& 31)) ^^^ (-1)))) R G B P := by
      refine ⟨good0_br g1.1 _, fun r hr => ⟨gQ1_br (g1.2 r hr).1 _, ?_⟩⟩
      intro a b hb c
      have a : σ1 26 0 0 r = 1 := by simpa [up_rd] using a
      have c : σ1 29 0 0 r = nI b := by simpa [up_rd] using c
      have d := (g1.2 r hr).2 a b hb c
      rw [rnd_up (by decide), rgv_up (by decide), up_k (show 37 ≠ 15 by decide)]
      refine rch_mono (fun k hk hw => ?_) (sb_rfl _) 0 (by omega) d
      rw [wk_br]
      unfold wk at hw
      have h8 := (g1.1.r r hr).2.1
      unfold outp at hw ⊢
      rcases ((g1.1.r r hr).2.2.1 k hk).1 with e | ⟨x, hx, e⟩
      · rw [e]; rfl
      · rw [e, nI_clamp (by omega)] at hw ⊢
        rw [b_and, b_not _ (by omega)]
        cases e2 : bt (σ1 15 2 0 0) x with
        | false => simp
        | true =>
          rw [e2, decide_eq_true (nI_m1 (by omega))] at hw
          cases hw
    refine stepG gg g2 (by rw [kh_up_ne (by omega)]; exact t1) 0 (fun ρ q => ?_) (fun τ gt e => ?_)
    · rw [hs] at q
      refine ⟨_, ?_, relC_br q _, frC_up (frC_rfl ρ) (by omega)⟩
      show f_L_prop ρ (nI p) _ = _
      unfold f_L_prop f_X4_prop
      rw [if_pos ha, c_isProp, if_neg hp1, kp_bd, if_neg one_ne, if_pos rfl, c_without, kp_bd, kx_r, q.1.2.2.2.2.2.2.1]
    · have e1 : kM (kh_up τ 15 0 0 0 0) σ1 := by rw [← hs]; exact kM_up e 15 0 0 0 rfl
      have f15 := e1 15 (by omega) (by omega)
      refine ⟨kh_up (kh_up τ 15 0 0 0 0) 15 2 0 0 (σ1 15 2 0 0 &&& (((1 : Int32) <<< (nI p &&& 31)) ^^^ (-1))), ?_, kM_up e1 15 2 0 0 rfl, frM_up (frM_up (frM_rfl τ) (by omega)) (by omega)⟩
      show f_X5_prop τ (nI p) _ = _
      have hend : ∀ w : Int32, f_X5_prop_L41 (kh_up τ 15 0 0 0 0) (nI p) 0 w = some (0, kh_up (kh_up τ 15 0 0 0 0) 15 2 0 0 (σ1 15 2 0 0 &&& (((1 : Int32) <<< (nI p &&& 31)) ^^^ (-1)))) := by
        intro w
        unfold f_X5_prop_L41 f_X5_prop_L68
        rw [if_pos rfl, f15]
        have hl : kh_lp (fun a : kh_S × Int32 × Int32 => f_X5_prop_B77 0 w a.1 a.2.1 a.2.2) 9999 (kh_up (kh_up τ 15 0 0 0 0) 15 2 0 0 (σ1 15 2 0 0 &&& (((1 : Int32) <<< (nI p &&& 31)) ^^^ (-1))), (0 : Int32), (0 : Int32)) = some (kh_up (kh_up τ 15 0 0 0 0) 15 2 0 0 (σ1 15 2 0 0 &&& (((1 : Int32) <<< (nI p &&& 31)) ^^^ (-1))), 0) := by
          refine kp_lp 0 (fun _ => (_, 0, 0)) (fun j hj => by omega) ?_ 9999 (by omega)
          show f_X5_prop_B77 0 w _ 0 0 = _
          unfold f_X5_prop_B77
          split
          · rfl
          · rw [if_pos rfl]
        rw [hl]
        rfl
      unfold f_X5_prop f_X5_prop_L16
      rw [if_pos ha, m_in, if_neg hp2, kp_bd, if_neg one_ne, m_ref0, kp_bd2, if_pos rfl, hend, hend]
      split <;> rfl
  · -- broken
    generalize hv : σ1 15 2 0 0 ||| ((1 : Int32) <<< (nI p &&& 31)) = v
    obtain ⟨fa, fb, fc⟩ := fr_good (good0_br g1.1 v) (fun r hr => gQ1_br (g1.2 r hr).1 v) R (Nat.le_refl _)
    have g3 : good (fr P (kh_up σ1 15 2 0 0 v) R).1 R G B P := ⟨fa, fun r hr => ⟨fb r hr, fc r hr⟩⟩
    refine stepG gg g3 (by rw [fr_15, kh_up_ne (by omega)]; exact t1) (fr P (kh_up σ1 15 2 0 0 v) R).2 (fun ρ q => ?_) (fun τ gt e => ?_)
    · rw [hs] at q
      obtain ⟨ρ', c1, c2, c3⟩ := c_free (good0_br g1.1 v) (fun r hr => gQ1_br (g1.2 r hr).1 v) (relC_br q v)
      refine ⟨ρ', ?_, c2, frC_tr (frC_up (frC_rfl ρ) (by omega)) c3⟩
      show f_L_prop ρ (nI p) _ = _
      unfold f_L_prop f_X4_prop
      rw [if_neg ha, c_isProp, if_neg hp1, kp_bd, if_neg one_ne, if_neg one_ne, c_with, kp_bd, q.1.2.2.2.2.2.2.1, hv, c1, kp_bd2, kx_r]
    · have e1 : kM (kh_up τ 15 0 0 0 0) σ1 := by rw [← hs]; exact kM_up e 15 0 0 0 rfl
      have f15 := e1 15 (by omega) (by omega)
      have e2 : kM (kh_up (kh_up τ 15 0 0 0 0) 15 2 0 0 v) (kh_up σ1 15 2 0 0 v) := kM_up e1 15 2 0 0 rfl
      obtain ⟨τ', c1, c2, c3⟩ := m_free (good0_br g1.1 v) (fun r hr => gQ1_br (g1.2 r hr).1 v) e2
      have f2 : frM τ (kh_up (kh_up τ 15 0 0 0 0) 15 2 0 0 v) := frM_up (frM_up (frM_rfl τ) (by omega)) (by omega)
      cases hw : bt (σ1 15 2 0 0) p with
      | false =>
        refine ⟨τ', ?_, c2, frM_tr f2 c3⟩
        show f_X5_prop τ (nI p) _ = _
        unfold f_X5_prop f_X5_prop_L16 f_X5_prop_L41 f_X5_prop_L68
        rw [if_neg ha, m_in, if_neg hp2, kp_bd, if_neg one_ne, m_ref0, kp_bd2, if_pos rfl, f15, if_neg (fun z => by rw [(kp_shr p (by omega) _).mp z] at hw; cases hw), if_neg one_ne, hv, c1, kp_bd]
        rfl
      | true =>
        have hv2 : v = σ1 15 2 0 0 := by
          rw [← hv]
          refine b_ext fun i hi => ?_
          rw [b_or, b_bit p (by omega) hi]
          by_cases e : i = p
          · subst e; simp [hw]
          · simp [e]
        have hu : kh_up σ1 15 2 0 0 v = σ1 := by
          funext k s i j
          rw [up_rd]
          by_cases z : k = 15 ∧ s = 2 ∧ i = 0 ∧ j = 0
          · rw [if_pos z, hv2, z.1, z.2.1, z.2.2.1, z.2.2.2]
          · rw [if_neg z]
        rw [hu] at e2 ⊢
        rw [fr_none g1 R (Nat.le_refl _)]
        refine ⟨_, ?_, e2, f2⟩
        show f_X5_prop τ (nI p) _ = _
        have hl : kh_lp (fun a : kh_S × Int32 × Int32 => f_X5_prop_B77 1 1 a.1 a.2.1 a.2.2) 9999 (kh_up (kh_up τ 15 0 0 0 0) 15 2 0 0 v, (0 : Int32), (0 : Int32)) = some (kh_up (kh_up τ 15 0 0 0 0) 15 2 0 0 v, 0) := by
          refine kp_lp 0 (fun _ => (_, 0, 0)) (fun j hj => by omega) ?_ 9999 (by omega)
          show f_X5_prop_B77 1 1 _ 0 0 = _
          unfold f_X5_prop_B77
          split
          · rfl
          · rw [if_neg one_ne, if_neg one_ne]
        unfold f_X5_prop f_X5_prop_L16 f_X5_prop_L41 f_X5_prop_L68
        rw [if_neg ha, m_in, if_neg hp2, kp_bd, if_neg one_ne, m_ref0, kp_bd2, if_pos rfl, f15, if_pos ((kp_shr p (by omega) _).mpr hw), if_neg one_ne, hv, hl, kp_bd]
        rfl
end PROP
