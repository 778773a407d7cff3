/-! hint -/
def opS (σ : kh_S) (i r k : Nat) : Bool := wk σ r k && !bt (σ 38 0 0 i) k
def opI (σ : kh_S) (P : Nat → Nat) (i r : Nat) : Int32 := bset (wk σ r) (P r) &&& (σ 38 0 0 i ^^^ (-1))
def awS (σ : kh_S) (P : Nat → Nat) (i r : Nat) : Nat → Bool := fun s => awb (rnd σ r) (rgv σ r) (P r) (σ 37 0 0 i) (opI σ P i r) (nI s)
def wyS (σ : kh_S) (P : Nat → Nat) (i r : Nat) : Nat → Bool := fun s => wayb (opS σ i r) (rnd σ r) (rgv σ r) (P r) (σ 37 0 0 i) (nI s)
def fwI (b : Nat) : Int32 := if b = 0 then 9 else nI (cntb b)
/-- the lowest of those that hold, looked for from 7 down -/
def lo (c : Nat → Bool) : Nat → Int32
  | 0 => -1
  | j + 1 => if c (8 - j - 1) = true then nI (8 - j - 1) else lo c j
theorem lo_first {c : Nat → Bool} {m : Nat} (hm : m < 8) (h1 : c m = true) (h2 : ∀ k, k < m → c k = false) : ∀ j, j ≤ m → lo c (8 - m + j) = nI m
  | 0, _ => by
    have e : 8 - m + 0 = (7 - m) + 1 := by omega
    rw [e]
    show (if c (8 - (7 - m) - 1) = true then nI (8 - (7 - m) - 1) else _) = nI m
    rw [show 8 - (7 - m) - 1 = m by omega, if_pos h1]
  | j + 1, hj => by
    show (if c (8 - (8 - m + j) - 1) = true then _ else lo c (8 - m + j)) = nI m
    rw [h2 _ (by omega), if_neg (by decide)]
    exact lo_first hm h1 h2 j (by omega)
theorem any_first {c : Nat → Bool} {n : Nat} (h : ∃ k, k < n ∧ c k = true) : ∃ k, k < n ∧ c k = true ∧ ∀ j, j < k → c j = false := anyb_first (anyb_iff.mpr h)
section HINT
variable {ρ σ τ : kh_S} {R G B : Nat} {P : Nat → Nat}
theorem opI_bt {i r : Nat} (h8 : P r ≤ 8) (k : Nat) (hk : k < 32) : bt (opI σ P i r) k = (decide (k < P r) && opS σ i r k) := by
  unfold opI opS
  rw [bt_open h8 _ hk, Bool.and_assoc]
theorem c_wayOf (q : relC ρ σ R G B P) (g : good0 σ R G B P) {i r : Nat} (hi : i < G) (hr : r < R) (z : σ 36 0 0 i = nI r) : f_X4_wayOf ρ (nI i) = some (nI (sel (awS σ P i r) 256)) := by
  have h4 := g.R4
  have h30 := g.G30
  have h8 := (g.r r hr).2.1
  have hcr : (nI r).toNatClampNeg = r := nI_clamp (by omega)
  have hci : (nI i).toNatClampNeg = i := nI_clamp (by omega)
  obtain ⟨w0, w1, w2, w4, w5, w6, w7, w8, w9⟩ := q.g i hi
  unfold f_X4_wayOf
  rw [kp_gdT (q.i11 g hi), c_openTo q g hi hr z, kp_bd, hci, w1, z]
  show kh_bd (kh_lp (fun a : Int32 × Int32 × Int32 => f_X4_wayOf_B21 ρ (nI i) (nI r) (opI σ P i r) a.1 a.2.1 a.2.2) 9999 ((0 : Int32), (9 : Int32), (1 : Int32))) (f_X4_wayOf_A21 ρ (nI i) (nI r) (opI σ P i r)) = _
  have hl : kh_lp (fun a : Int32 × Int32 × Int32 => f_X4_wayOf_B21 ρ (nI i) (nI r) (opI σ P i r) a.1 a.2.1 a.2.2) 9999 ((0 : Int32), (9 : Int32), (1 : Int32)) = some (nI (sel (awS σ P i r) 256)) := by
    have hs1 : sel (awS σ P i r) 1 = 0 := if_neg (fun z => absurd z.1 (by decide))
    have h := kp_lp (f := fun a : Int32 × Int32 × Int32 => f_X4_wayOf_B21 ρ (nI i) (nI r) (opI σ P i r) a.1 a.2.1 a.2.2) (b := nI (sel (awS σ P i r) 256)) 255 (fun j => (nI (sel (awS σ P i r) (j + 1)), fwI (sel (awS σ P i r) (j + 1)), nI (j + 1))) (fun j hj => ?_) ?_ 9999 (by omega)
    · rw [hs1] at h
      exact h
    · show f_X4_wayOf_B21 ρ (nI i) (nI r) (opI σ P i r) (nI (sel (awS σ P i r) (j + 1))) (fwI (sel (awS σ P i r) (j + 1))) (nI (j + 1)) = some (.inl (nI (if 1 ≤ j + 1 ∧ awS σ P i r (j + 1) = true ∧ (sel (awS σ P i r) (j + 1) = 0 ∨ cntb (j + 1) < cntb (sel (awS σ P i r) (j + 1))) then j + 1 else sel (awS σ P i r) (j + 1)), fwI (if 1 ≤ j + 1 ∧ awS σ P i r (j + 1) = true ∧ (sel (awS σ P i r) (j + 1) = 0 ∨ cntb (j + 1) < cntb (sel (awS σ P i r) (j + 1))) then j + 1 else sel (awS σ P i r) (j + 1)), nI (j + 1 + 1)))
      generalize sel (awS σ P i r) (j + 1) = b
      have hcb := cntb_le b
      have hcj := cntb_le (j + 1)
      unfold f_X4_wayOf_B21 f_X4_wayOf_L77
      rw [if_neg (show ¬ 256 ≤ nI (j + 1) from nI_ge (b := 256) (by omega) (by omega)), c_bits ρ _ (by omega), kp_bd, c_isWithin, kp_bd, kp_gdT (q.i11 g hi), kp_gdT (q.i6 g hr), hcr, hci, w8, c_reach (q.kR g hr), kp_bd, c_has0, kp_bd, nI_1]
      by_cases hlt : b = 0 ∨ cntb (j + 1) < cntb b
      · have hfw : ¬ fwI b ≤ nI (cntb (j + 1)) := by
          unfold fwI
          by_cases hb : b = 0
          · rw [if_pos hb]
            exact nI_ge (b := 9) (by omega) (by omega)
          · rw [if_neg hb]
            exact nI_ge (hlt.resolve_left hb) (by omega)
        rw [if_neg hfw]
        cases e1 : sv (nI (j + 1)) (opI σ P i r) with
        | false =>
          have ea : ¬ awS σ P i r (j + 1) = true := by unfold awS awb; rw [e1]; simp
          rw [if_pos (by decide), if_neg (fun z => ea z.2.1)]
        | true =>
          rw [if_neg (by decide)]
          cases e2 : bt (rch (bt (nI (j + 1))) (rnd σ r) (rgv σ r) (P r) (σ 37 0 0 i)) 0 with
          | false =>
            have ea : ¬ awS σ P i r (j + 1) = true := by unfold awS awb; rw [e2]; simp
            rw [if_pos (by decide), if_neg (fun z => ea z.2.1)]
          | true =>
            have ea : awS σ P i r (j + 1) = true := by unfold awS awb; rw [e1, e2]; rfl
            rw [if_neg (by decide), if_pos ⟨by omega, ea, hlt⟩]
            have : fwI (j + 1) = nI (cntb (j + 1)) := if_neg (by omega)
            rw [this]
      · have hb : ¬ b = 0 := fun z => hlt (Or.inl z)
        have hfw : fwI b ≤ nI (cntb (j + 1)) := by
          unfold fwI
          rw [if_neg hb]
          exact nI_le (by
            have : ¬ cntb (j + 1) < cntb b := fun z => hlt (Or.inr z)
            omega) (by omega)
        rw [if_pos hfw, if_neg (fun z => hlt z.2.2)]
    · show f_X4_wayOf_B21 ρ (nI i) (nI r) (opI σ P i r) _ _ (nI 256) = _
      unfold f_X4_wayOf_B21
      rw [if_pos (by decide)]
  rw [hl]
  rfl
theorem m_isWay (g : good0 τ R G B P) {i r : Nat} (hi : i < G) (hr : r < R) (z : τ 36 0 0 i = nI r) (x : Int32) : f_X5_isWay τ (nI i) x = some (if wayb (opS τ i r) (rnd τ r) (rgv τ r) (P r) (τ 37 0 0 i) x = true then 1 else 0) := by
  have h4 := g.R4
  have h30 := g.G30
  have h8 := (g.r r hr).2.1
  have e25 := (g.r r hr).1
  have hcr : (nI r).toNatClampNeg = r := nI_clamp (by omega)
  have hci : (nI i).toNatClampNeg = i := nI_clamp (by omega)
  have hi30 : kh_in (nI i) 30 = true := kp_in (show i < 30 by omega) (by omega)
  have hr4 : kh_in (nI r) 4 = true := kp_in (show r < 4 by omega) (by omega)
  have hin : ∀ dn : Int32, kh_lp (fun a : Int32 × Int32 => f_X5_isWay_B42 τ (nI i) x (nI r) dn (τ 37 0 0 i ||| gby (bt dn) (rgv τ r) (P r)) a.1 a.2) 9999 (dn, (0 : Int32)) = some (dor (cnd (opS τ i r) (rnd τ r) (rgv τ r) (P r) (τ 37 0 0 i) x dn) dn (P r)) := by
    intro dn
    refine kp_lp (P r) (fun k => (dor (cnd (opS τ i r) (rnd τ r) (rgv τ r) (P r) (τ 37 0 0 i) x dn) dn k, nI k)) (fun k hk => ?_) ?_ 9999 (by omega)
    · show f_X5_isWay_B42 τ (nI i) x (nI r) dn (τ 37 0 0 i ||| gby (bt dn) (rgv τ r) (P r)) (dor (cnd (opS τ i r) (rnd τ r) (rgv τ r) (P r) (τ 37 0 0 i) x dn) dn k) (nI k) = some (.inl (if cnd (opS τ i r) (rnd τ r) (rgv τ r) (P r) (τ 37 0 0 i) x dn k = true then dor (cnd (opS τ i r) (rnd τ r) (rgv τ r) (P r) (τ 37 0 0 i) x dn) dn k ||| ((1 : Int32) <<< (nI k &&& 31)) else dor (cnd (opS τ i r) (rnd τ r) (rgv τ r) (P r) (τ 37 0 0 i) x dn) dn k, nI (k + 1)))
      generalize dor (cnd (opS τ i r) (rnd τ r) (rgv τ r) (P r) (τ 37 0 0 i) x dn) dn k = acc
      unfold f_X5_isWay_B42 f_X5_isWay_L114 f_X5_isWay_L115 f_X5_isWay_L132
      rw [kp_gdT hr4, hcr, e25, if_neg (nI_ge hk (by omega)), kp_gdT hi30, hci, at8, m_isOut g hr hk, kp_bd, kp_gdT (kp_in (show 8 * r + k < 32 by omega) (by omega)), nI_clamp (show 8 * r + k < 2 ^ 31 by omega), nI_1]
      have hno : cnd (opS τ i r) (rnd τ r) (rgv τ r) (P r) (τ 37 0 0 i) x dn k = false → (some (Sum.inl (acc ||| 0, nI (k + 1))) : Option ((Int32 × Int32) ⊕ Int32)) = some (.inl (if cnd (opS τ i r) (rnd τ r) (rgv τ r) (P r) (τ 37 0 0 i) x dn k = true then acc ||| ((1 : Int32) <<< (nI k &&& 31)) else acc, nI (k + 1))) := by
        intro y
        rw [y, if_neg (by decide), Int32.or_zero]
      cases e1 : bt x k with
      | false =>
        rw [if_neg (fun y => by rw [(kp_shr k (by omega) _).mp y] at e1; cases e1), if_pos rfl]
        exact hno (by unfold cnd; rw [e1]; rfl)
      | true =>
        rw [if_pos ((kp_shr k (by omega) _).mpr e1)]
        cases e2 : bt (τ 38 0 0 i) k with
        | true =>
          rw [if_neg (fun y => by rw [(kp_shrF k (by omega) _).mp y] at e2; cases e2), if_pos rfl]
          exact hno (by unfold cnd opS; rw [e2]; simp)
        | false =>
          rw [if_pos ((kp_shrF k (by omega) _).mpr e2)]
          cases e3 : wk τ r k with
          | false =>
            rw [if_neg (by decide), if_pos rfl]
            exact hno (by unfold cnd opS; rw [e3]; simp)
          | true =>
            rw [if_pos (by decide)]
            cases e4 : sv (rnd τ r k) (τ 37 0 0 i ||| gby (bt dn) (rgv τ r) (P r)) with
            | false =>
              have e5 : ¬ (τ 30 0 0 (8 * r + k) &&& ((τ 37 0 0 i ||| gby (bt dn) (rgv τ r) (P r)) ^^^ (-1))) = 0 := sv_neg e4
              rw [if_neg e5, if_pos rfl]
              exact hno (by unfold cnd; rw [e4]; simp)
            | true =>
              have e5 : (τ 30 0 0 (8 * r + k) &&& ((τ 37 0 0 i ||| gby (bt dn) (rgv τ r) (P r)) ^^^ (-1))) = 0 := sv_pos e4
              have hc : cnd (opS τ i r) (rnd τ r) (rgv τ r) (P r) (τ 37 0 0 i) x dn k = true := by unfold cnd opS; rw [e1, e2, e3, e4]; rfl
              rw [if_pos e5, if_neg one_ne, hc, if_pos rfl]
    · show f_X5_isWay_B42 τ (nI i) x (nI r) dn _ _ (nI (P r)) = _
      unfold f_X5_isWay_B42
      rw [kp_gdT hr4, hcr, e25, if_pos (nI_le (Nat.le_refl _) (by omega))]
  obtain ⟨N, hN, h1, h2, h3⟩ := dit_stop (S0 := opS τ i r) (nd := rnd τ r) (gv := rgv τ r) (h0 := τ 37 0 0 i) h8 x
  have hl : kh_lp (fun a : Int32 × Int32 => f_X5_isWay_B13 τ (nI i) x (nI r) a.1 a.2) 9999 ((0 : Int32), (-1 : Int32)) = some (dit (opS τ i r) (rnd τ r) (rgv τ r) (P r) (τ 37 0 0 i) x (P r)) := by
    refine kp_lp (N + 1) (fun j => (dit (opS τ i r) (rnd τ r) (rgv τ r) (P r) (τ 37 0 0 i) x j, if j = 0 then -1 else dit (opS τ i r) (rnd τ r) (rgv τ r) (P r) (τ 37 0 0 i) x (j - 1))) (fun j hj => ?_) ?_ 9999 (by omega)
    · show f_X5_isWay_B13 τ (nI i) x (nI r) (dit (opS τ i r) (rnd τ r) (rgv τ r) (P r) (τ 37 0 0 i) x j) (if j = 0 then -1 else dit (opS τ i r) (rnd τ r) (rgv τ r) (P r) (τ 37 0 0 i) x (j - 1)) = _
      have hne : ¬ dit (opS τ i r) (rnd τ r) (rgv τ r) (P r) (τ 37 0 0 i) x j = (if j = 0 then -1 else dit (opS τ i r) (rnd τ r) (rgv τ r) (P r) (τ 37 0 0 i) x (j - 1)) := by
        by_cases e : j = 0
        · subst e
          rw [if_pos rfl]
          show ¬ (0 : Int32) = -1
          decide
        · rw [if_neg e]
          have := h1 (j - 1) (by omega)
          rw [show j - 1 + 1 = j by omega] at this
          exact this
      unfold f_X5_isWay_B13
      rw [if_neg hne, kp_gdT hi30, hci, m_heldBy τ (show r < 4 by omega) e25 h8, kp_bd, hin, kp_bd]
      show some (Sum.inl (_, _)) = some (Sum.inl (_, if j + 1 = 0 then _ else _))
      rw [if_neg (by omega : ¬ j + 1 = 0)]
      rfl
    · show f_X5_isWay_B13 τ (nI i) x (nI r) (dit (opS τ i r) (rnd τ r) (rgv τ r) (P r) (τ 37 0 0 i) x (N + 1)) (if N + 1 = 0 then -1 else dit (opS τ i r) (rnd τ r) (rgv τ r) (P r) (τ 37 0 0 i) x (N + 1 - 1)) = _
      unfold f_X5_isWay_B13
      rw [if_neg (by omega : ¬ N + 1 = 0), show N + 1 - 1 = N by omega, h2, if_pos rfl, h3]
  unfold f_X5_isWay
  rw [kp_gdT hi30, hci, z, hl, kp_bd]
  unfold f_X5_isWay_A13 f_X5_isWay_L144 f_X5_isWay_L172 f_X5_isWay_L173 wayb
  by_cases e : dit (opS τ i r) (rnd τ r) (rgv τ r) (P r) (τ 37 0 0 i) x (P r) = x
  · rw [if_pos e, kp_gdT hi30, hci, m_heldBy τ (show r < 4 by omega) e25 h8, kp_bd, decide_eq_true e, Bool.true_and]
    cases e2 : bt (τ 37 0 0 i ||| gby (bt x) (rgv τ r) (P r)) 0 with
    | true => rw [if_pos ((kp_a1' _).mpr e2)]; rfl
    | false => rw [if_neg (fun y => by rw [(kp_a1' _).mp y] at e2; cases e2)]; rfl
  · rw [if_neg e, decide_eq_false e]
    rfl
theorem m_wayOf (g : good0 τ R G B P) {i r : Nat} (hi : i < G) (hr : r < R) (z : τ 36 0 0 i = nI r) : f_X5_wayOf τ (nI i) = some (nI (sel (wyS τ P i r) (2 ^ P r))) := by
  have h4 := g.R4
  have h30 := g.G30
  have h8 := (g.r r hr).2.1
  have h256 := pow_p _ h8
  have hpos : 0 < 2 ^ P r := Nat.pow_pos (by omega)
  have e25 := (g.r r hr).1
  have hcr : (nI r).toNatClampNeg = r := nI_clamp (by omega)
  have hci : (nI i).toNatClampNeg = i := nI_clamp (by omega)
  have hi30 : kh_in (nI i) 30 = true := kp_in (show i < 30 by omega) (by omega)
  have hr4 : kh_in (nI r) 4 = true := kp_in (show r < 4 by omega) (by omega)
  have hl : kh_lp (fun a : Int32 × Int32 => f_X5_wayOf_B4 τ (nI i) a.1 a.2) 9999 ((0 : Int32), (1 : Int32)) = some (nI (sel (wyS τ P i r) (2 ^ P r))) := by
    have hs1 : sel (wyS τ P i r) 1 = 0 := if_neg (fun z => absurd z.1 (by decide))
    have h := kp_lp (f := fun a : Int32 × Int32 => f_X5_wayOf_B4 τ (nI i) a.1 a.2) (b := nI (sel (wyS τ P i r) (2 ^ P r))) (2 ^ P r - 1) (fun j => (nI (sel (wyS τ P i r) (j + 1)), nI (j + 1))) (fun j hj => ?_) ?_ 9999 (by omega)
    · rw [hs1] at h
      exact h
    · show f_X5_wayOf_B4 τ (nI i) (nI (sel (wyS τ P i r) (j + 1))) (nI (j + 1)) = some (.inl (nI (if 1 ≤ j + 1 ∧ wyS τ P i r (j + 1) = true ∧ (sel (wyS τ P i r) (j + 1) = 0 ∨ cntb (j + 1) < cntb (sel (wyS τ P i r) (j + 1))) then j + 1 else sel (wyS τ P i r) (j + 1)), nI (j + 1 + 1)))
      have hb256 : sel (wyS τ P i r) (j + 1) < 256 := by
        rcases sel_spec (wyS τ P i r) (j + 1) with ⟨a, -⟩ | ⟨-, a, -⟩
        · omega
        · omega
      generalize sel (wyS τ P i r) (j + 1) = b at hb256
      have hcb := cntb_le b
      have hcj := cntb_le (j + 1)
      have hL36 : (b = 0 ∨ cntb (j + 1) < cntb b) → f_X5_wayOf_L36 τ (nI i) (nI b) (nI (j + 1)) = some (.inl (nI (if 1 ≤ j + 1 ∧ wyS τ P i r (j + 1) = true ∧ (b = 0 ∨ cntb (j + 1) < cntb b) then j + 1 else b), nI (j + 1 + 1))) := by
        intro hlt
        unfold f_X5_wayOf_L36 f_X5_wayOf_L49 f_X5_wayOf_L50
        rw [m_isWay g hi hr z, kp_bd, nI_1]
        cases e : wyS τ P i r (j + 1) with
        | true =>
          have e' : wayb (opS τ i r) (rnd τ r) (rgv τ r) (P r) (τ 37 0 0 i) (nI (j + 1)) = true := e
          rw [e', if_neg (by decide), if_pos ⟨by omega, rfl, hlt⟩]
        | false =>
          have e' : wayb (opS τ i r) (rnd τ r) (rgv τ r) (P r) (τ 37 0 0 i) (nI (j + 1)) = false := e
          rw [e', if_pos (by decide), if_neg (fun y => by cases y.2.1)]
      unfold f_X5_wayOf_B4
      rw [kp_gdT hi30, hci, z, kp_gdT hr4, hcr, e25, shl_p _ h8, if_neg (nI_ge (show j + 1 < 2 ^ P r by omega) (by omega)), m_bits τ _ (show j + 1 < 256 by omega), kp_bd, m_bits τ _ hb256, kp_bd]
      by_cases hb : b = 0
      · rw [if_pos (by rw [hb]; rfl)]
        exact hL36 (Or.inl hb)
      · rw [if_neg (nI_ne0 (by omega) (by omega))]
        by_cases hlt : cntb (j + 1) < cntb b
        · rw [if_neg (nI_ge hlt (by omega))]
          exact hL36 (Or.inr hlt)
        · rw [if_pos (nI_le (by omega) (by omega)), if_neg (fun y => y.2.2.elim hb hlt)]
          unfold f_X5_wayOf_L49 f_X5_wayOf_L50
          rw [nI_1]
    · show f_X5_wayOf_B4 τ (nI i) (nI (sel (wyS τ P i r) (2 ^ P r - 1 + 1))) (nI (2 ^ P r - 1 + 1)) = _
      rw [show 2 ^ P r - 1 + 1 = 2 ^ P r by omega]
      unfold f_X5_wayOf_B4
      rw [kp_gdT hi30, hci, z, kp_gdT hr4, hcr, e25, shl_p _ h8, if_pos (nI_le (Nat.le_refl _) (by omega))]
  unfold f_X5_wayOf
  rw [hl]
  rfl
/-- the hint of a group that plays -/
theorem hint_ex (gg : good σ R G B P) {i r : Nat} (hi : i < G) (hr : r < R) (z : σ 36 0 0 i = nI r) (hp : σ 35 0 0 i = 0) : ∃ w m, w < 2 ^ P r ∧ sel (awS σ P i r) 256 = w ∧ sel (wyS σ P i r) (2 ^ P r) = w ∧ m < P r ∧ (bt (nI w) m = true ∧ mayb σ i r m = true ∧ sv (rnd σ r m) (σ 37 0 0 i) = true) ∧ (∀ k, k < m → bt (nI w) k = true → sv (rnd σ r k) (σ 37 0 0 i) = false) ∧ ∀ k, k < P r → bt (nI w) k = true → mayb σ i r k = sv (rnd σ r k) (σ 37 0 0 i) := by
  have g := gg.1
  have h4 := g.R4
  have h30 := g.G30
  have h8 := (g.r r hr).2.1
  have h256 := pow_p _ h8
  obtain ⟨r0, hr0, z0, zi, zp⟩ := g.g i hi
  obtain rfl : r0 = r := nI_inj (z0.symm.trans z) (by omega) (by omega)
  obtain ⟨p1, p2⟩ := zp hp
  obtain ⟨q1, q1'⟩ := (gg.2 r0 hr).1 p1 i (by omega) p2
  have q2 := (gg.2 r0 hr).2 p1 i (by omega) p2
  have hop : ∀ k, k < 32 → bt (opI σ P i r0) k = (decide (k < P r0) && opS σ i r0 k) := fun k hk => opI_bt h8 k hk
  obtain ⟨hse, hex⟩ := sel_eq (S0 := opS σ i r0) (nd := rnd σ r0) (gv := rgv σ r0) (h0 := σ 37 0 0 i) h8 hop q1
  have hself : awb (rnd σ r0) (rgv σ r0) (P r0) (σ 37 0 0 i) (opI σ P i r0) (opI σ P i r0) = true := by
    unfold awb
    rw [Bool.and_eq_true, sv_iff]
    refine ⟨sb_rfl _, rch_least (S := wk σ r0) (nd := rnd σ r0) (gv := rgv σ r0) (P := P r0) (c := rch (bt (opI σ P i r0)) (rnd σ r0) (rgv σ r0) (P r0) (σ 37 0 0 i)) (fun k hk hw hn => ?_) (rch_ge _) 0 (by omega) q2⟩
    cases e : bt (σ 38 0 0 i) k with
    | true => exact sb_tr (q1' k hk e) (rch_ge _)
    | false =>
      refine rch_closed _ k hk ?_ hn
      rw [hop k (by omega), decide_eq_true hk]
      unfold opS
      rw [hw, e]
      rfl
  obtain ⟨y, hy, ey⟩ := inP_nI (x := opI σ P i r0) h8 (fun k hk h => by
    rw [hop k hk, Bool.and_eq_true, decide_eq_true_eq] at h
    exact h.1)
  have hy1 : 1 ≤ y := by
    rcases Nat.eq_zero_or_pos y with e | e
    · subst e
      rw [ey] at hself
      unfold awb at hself
      rw [Bool.and_eq_true] at hself
      have h3 : sb (rch (bt (nI 0)) (rnd σ r0) (rgv σ r0) (P r0) (σ 37 0 0 i)) (σ 37 0 0 i) := rch_least (fun k hk hb => by rw [nI_0, b_0] at hb; cases hb) (sb_rfl _)
      have := h3 0 (by omega) hself.2
      rw [q1] at this
      cases this
    · exact e
  obtain ⟨w1, w2, w3⟩ := hex y hy1 (by omega) (by rw [← ey]; exact hself)
  have hse' : sel (awS σ P i r0) 256 = sel (wyS σ P i r0) (2 ^ P r0) := hse
  change 1 ≤ sel (awS σ P i r0) 256 at w1
  change sel (awS σ P i r0) 256 < 2 ^ P r0 at w2
  change wayb (opS σ i r0) (rnd σ r0) (rgv σ r0) (P r0) (σ 37 0 0 i) (nI (sel (awS σ P i r0) 256)) = true at w3
  generalize hw : sel (awS σ P i r0) 256 = w at w1 w2 w3 hse'
  obtain ⟨k0, hk0, hk1, hk2⟩ := way_first h8 w3 (nI_ne0 (by omega) (by omega))
  obtain ⟨m, hm, hm1, hm2⟩ := any_first (c := fun k => bt (nI w) k && sv (rnd σ r0 k) (σ 37 0 0 i)) (n := P r0) ⟨k0, hk0, by rw [hk1, hk2]; rfl⟩
  rw [Bool.and_eq_true] at hm1
  have hin : ∀ k, k < P r0 → bt (nI w) k = true → mayb σ i r0 k = sv (rnd σ r0 k) (σ 37 0 0 i) := by
    intro k hk hb
    have hd : dit (opS σ i r0) (rnd σ r0) (rgv σ r0) (P r0) (σ 37 0 0 i) (nI w) (P r0) = nI w := by
      unfold wayb at w3
      simp only [Bool.and_eq_true, decide_eq_true_eq] at w3
      exact w3.1
    rw [← hd] at hb
    have h9 := (dit_in h8 (nI w) (P r0) k (by omega) hb).2.2
    unfold opS at h9
    rw [Bool.and_eq_true] at h9
    unfold mayb
    rw [h9.1, h9.2]
    simp
  refine ⟨w, m, w2, rfl, hse'.symm, hm, ⟨hm1.1, ?_, hm1.2⟩, fun k hk hb => ?_, hin⟩
  · rw [hin m hm hm1.1]; exact hm1.2
  · have := hm2 k hk
    rw [hb, Bool.true_and] at this
    exact this
def htd (σ : kh_S) (i m : Nat) : kh_S := kh_up (kh_up (kh_up σ 40 0 0 i (σ 40 0 0 i + ((2 : Int32) + (3 : Int32) * σ 42 0 0 (8 * i + m)))) 42 0 0 (8 * i + m) (σ 42 0 0 (8 * i + m) + 1)) 41 0 0 i (σ 41 0 0 i + 1)
theorem htd_ne (σ : kh_S) (i m : Nat) {k : Nat} (h : k ≠ 40 ∧ k ≠ 41 ∧ k ≠ 42) : htd σ i m k = σ k := by
  unfold htd
  rw [up_k h.2.1, up_k h.2.2, up_k h.1]
theorem good_htd (gg : good σ R G B P) {i m : Nat} (hi : i < G) (hm : m < 8) : good (htd σ i m) R G B P := by
  have g := gg.1
  have e15 := htd_ne σ i m (k := 15) (by omega)
  have e25 := htd_ne σ i m (k := 25) (by omega)
  have e26 := htd_ne σ i m (k := 26) (by omega)
  have e27 := htd_ne σ i m (k := 27) (by omega)
  have e28 := htd_ne σ i m (k := 28) (by omega)
  have e29 := htd_ne σ i m (k := 29) (by omega)
  have e30 := htd_ne σ i m (k := 30) (by omega)
  have e31 := htd_ne σ i m (k := 31) (by omega)
  have e32 := htd_ne σ i m (k := 32) (by omega)
  have e33 := htd_ne σ i m (k := 33) (by omega)
  have e35 := htd_ne σ i m (k := 35) (by omega)
  have e36 := htd_ne σ i m (k := 36) (by omega)
  have e37 := htd_ne σ i m (k := 37) (by omega)
  have e38 := htd_ne σ i m (k := 38) (by omega)
  have e43 := htd_ne σ i m (k := 43) (by omega)
  have e44 := htd_ne σ i m (k := 44) (by omega)
  have e45 := htd_ne σ i m (k := 45) (by omega)
  have e46 := htd_ne σ i m (k := 46) (by omega)
  have e48 := htd_ne σ i m (k := 48) (by omega)
  have e49 := htd_ne σ i m (k := 49) (by omega)
  have hH : gH (htd σ i m) G := by
    intro g' h1 h2
    obtain ⟨a, b, c⟩ := g.h g' h1 h2
    have e : ¬ g' = i := by omega
    refine ⟨?_, ?_, fun k hk => ?_⟩
    · simpa [htd, up_rd, e] using a
    · simpa [htd, up_rd, e] using b
    · have e2 : ¬ 8 * g' + k = 8 * i + m := by omega
      simpa [htd, up_rd, e2] using c k hk
  have w : wk (htd σ i m) = wk σ := by funext r k; simp only [wk, rpr, e32, e15]
  have w1 : rnd (htd σ i m) = rnd σ := by funext r k; simp only [rnd, e30]
  have w2 : rgv (htd σ i m) = rgv σ := by funext r k; simp only [rgv, e31]
  have w3 : rpr (htd σ i m) = rpr σ := by funext r k; simp only [rpr, e32]
  have w4 : rtk (htd σ i m) = rtk σ := by funext r k; simp only [rtk, e33]
  obtain ⟨⟨c1, c2, c3, c4, c5, -, c7, c8, c9⟩, c10⟩ := gg
  refine ⟨⟨?_, ?_, ?_, ?_, ?_, hH, ?_, ?_, ?_⟩, ?_⟩
  · unfold gS at c1 ⊢; rw [e15]; exact c1
  · unfold gR at c2 ⊢; rw [e25, e27, e28, w3, w4]; exact c2
  · unfold gN at c3 ⊢; rw [e25, e26, e27, e28]; exact c3
  · unfold gP at c4 ⊢; rw [e26, e29, e35, e36]; exact c4
  · unfold gG at c5 ⊢; rw [e26, e29, e35, e36, e38]; exact c5
  · unfold gW at c7 ⊢; rw [e26, e43, e44, e45, e46]; exact c7
  · unfold gD at c8 ⊢; rw [e43]; exact c8
  · unfold gB at c9 ⊢; rw [e48, e49]; exact c9
  · unfold gQ1 gQ2 at c10 ⊢; rw [e26, e29, e37, e38, w, w1, w2]; exact c10
theorem c_htd (q : relC ρ σ R G B P) (g : good0 σ R G B P) {i m : Nat} (hi : i < G) (hm : m < 8) : ∃ ρ', f_X1_takeHint ρ i (nI m) = some ρ' ∧ relC ρ' (htd σ i m) R G B P ∧ frC ρ ρ' := by
  have h30 := g.G30
  obtain ⟨w0, w1, w2, w4, w5, w6, w7, w8, w9⟩ := q.g i hi
  have hcm : (nI m).toNatClampNeg = m := nI_clamp (by omega)
  unfold f_X1_takeHint
  rw [kp_gdT (decide_eq_true (by rw [q.n11 g]; exact hi)), kp_gdT (kp_in hm (by omega)), hcm, w5, w9 m hm]
  have e12 : (kh_up ρ 11 5 i 0 (σ 40 0 0 i + ((2 : Int32) + (3 : Int32) * σ 42 0 0 (8 * i + m)))) 12 0 i m = σ 42 0 0 (8 * i + m) := by rw [rd_ne (by decide), w9 m hm]
  rw [e12]
  have e11 : (kh_up (kh_up ρ 11 5 i 0 (σ 40 0 0 i + ((2 : Int32) + (3 : Int32) * σ 42 0 0 (8 * i + m)))) 12 0 i m (σ 42 0 0 (8 * i + m) + 1)) 11 4 i 0 = σ 41 0 0 i := by rw [rd_ne (by decide), kh_up_ne (by omega), w4]
  rw [e11]
  refine ⟨_, rfl, ?_, frC_up (frC_up (frC_up (frC_rfl ρ) (by omega)) (by omega)) (by omega)⟩
  refine ⟨?_, ?_, fun r' hr' => ?_, fun g' hg' => ?_, fun j hj => ?_, fun b hb => ?_⟩
  · simpa [cS, htd, up_rd] using q.1
  · simpa [cA, up_rd] using q.2.1
  · simpa [cR, htd, up_rd, rnd_up, rgv_up, rpr_up, rtk_up] using q.r r' hr'
  · obtain ⟨v0, v1, v2, v4, v5, v6, v7, v8, v9⟩ := q.g g' hg'
    by_cases e : g' = i
    · subst e
      refine ⟨?_, ?_, ?_, ?_, ?_, ?_, ?_, ?_, fun k hk => ?_⟩
      · simpa [up_rd] using v0
      · simpa [htd, up_rd] using v1
      · simpa [htd, up_rd] using v2
      · simp [htd, up_rd]
      · simp [htd, up_rd]
      · simpa [htd, up_rd] using v6
      · simpa [htd, up_rd] using v7
      · simpa [htd, up_rd] using v8
      · by_cases e2 : k = m
        · subst e2; simp [htd, up_rd]
        · have e3 : ¬ 8 * g' + k = 8 * g' + m := by omega
          simpa [htd, up_rd, e2, e3] using v9 k hk
    · refine ⟨?_, ?_, ?_, ?_, ?_, ?_, ?_, ?_, fun k hk => ?_⟩
      · simpa [up_rd, e] using v0
      · simpa [htd, up_rd, e] using v1
      · simpa [htd, up_rd, e] using v2
      · simpa [htd, up_rd, e] using v4
      · simpa [htd, up_rd, e] using v5
      · simpa [htd, up_rd, e] using v6
      · simpa [htd, up_rd, e] using v7
      · simpa [htd, up_rd, e] using v8
      · have e3 : ¬ 8 * g' + k = 8 * i + m := by omega
        simpa [htd, up_rd, e, e3] using v9 k hk
  · simpa [cW, htd, up_rd] using q.w j hj
  · simpa [cB, htd, up_rd] using q.b b hb
theorem m_own (g : good0 τ R G B P) {i r : Nat} (hi : i < G) (hr : r < R) (z : τ 36 0 0 i = nI r) {w m : Nat} (hw : w < 2 ^ P r) (hm : m < P r) (hm1 : bt (nI w) m = true ∧ mayb τ i r m = true) (hm2 : ∀ k, k < m → (bt (nI w) k && mayb τ i r k) = false) : kh_lp (fun a : Int32 × Int32 => f_X5_hint_B50 τ (nI i) (nI w) a.1 a.2) 9999 ((-1 : Int32), (7 : Int32)) = some (nI m) := by
  have h30 := g.G30
  have h8 := (g.r r hr).2.1
  have h := kp_lp (f := fun a : Int32 × Int32 => f_X5_hint_B50 τ (nI i) (nI w) a.1 a.2) (b := lo (fun k => bt (nI w) k && mayb τ i r k) 8) 8 (fun j => (lo (fun k => bt (nI w) k && mayb τ i r k) j, nI (8 - j) - 1)) (fun j hj => ?_) ?_ 9999 (by omega)
  · have h2 := lo_first (c := fun k => bt (nI w) k && mayb τ i r k) (m := m) (by omega) (by rw [hm1.1, hm1.2]; rfl) hm2 m (Nat.le_refl _)
    rw [show 8 - m + m = 8 by omega] at h2
    rw [h2] at h
    exact h
  · show f_X5_hint_B50 τ (nI i) (nI w) (lo (fun k => bt (nI w) k && mayb τ i r k) j) (nI (8 - j) - 1) = some (.inl (if (bt (nI w) (8 - j - 1) && mayb τ i r (8 - j - 1)) = true then nI (8 - j - 1) else lo (fun k => bt (nI w) k && mayb τ i r k) j, nI (8 - (j + 1)) - 1))
    have hj1 : nI (8 - j) - 1 = nI (8 - j - 1) := by
      have := nI_pred (8 - j - 1)
      rw [show 8 - j - 1 + 1 = 8 - j by omega] at this
      exact this
    have hsub : nI (8 - j - 1) + (-1) = nI (8 - (j + 1)) - 1 := by
      rw [show 8 - (j + 1) = 8 - j - 1 by omega]
      grind
    rw [hj1]
    generalize lo (fun k => bt (nI w) k && mayb τ i r k) j = acc
    unfold f_X5_hint_B50 f_X5_hint_L80 f_X5_hint_L82
    rw [if_neg (nI_pos (by omega)), hsub]
    cases e : bt (nI w) (8 - j - 1) with
    | false =>
      rw [if_neg (fun y => by rw [(kp_shr _ (by omega) _).mp y] at e; cases e), Bool.false_and, if_neg (by decide)]
    | true =>
      have hk : 8 - j - 1 < P r := by
        refine Nat.not_le.mp fun hle => ?_
        rw [b_nI w (by omega), Nat.testBit_lt_two_pow (Nat.lt_of_lt_of_le hw (Nat.pow_le_pow_right (by omega) hle))] at e
        cases e
      rw [if_pos ((kp_shr _ (by omega) _).mpr e), m_maySolve g (show i < 30 by omega) hr hk z, kp_bd, Bool.true_and]
      cases e2 : mayb τ i r (8 - j - 1) with
      | true => rw [if_neg (by decide), if_pos rfl]
      | false => rw [if_pos (by decide), if_neg (by decide)]
  · show f_X5_hint_B50 τ (nI i) (nI w) _ (nI (8 - 8) - 1) = _
    unfold f_X5_hint_B50
    rw [if_pos (by decide)]
theorem kM_htd (h : kM τ σ) (i m : Nat) : kM (htd τ i m) (htd σ i m) := by
  unfold htd
  rw [h 40 (by omega) (by omega), h 41 (by omega) (by omega), h 42 (by omega) (by omega)]
  exact kM_up (kM_up (kM_up h 40 0 0 i rfl) 42 0 0 _ rfl) 41 0 0 i rfl
theorem frM_htd {a b : kh_S} (h : frM a b) (i m : Nat) : frM a (htd b i m) := frM_up (frM_up (frM_up h (by omega)) (by omega)) (by omega)
theorem m_L90 (τ : kh_S) {i m : Nat} (hi : i < 30) (hm : m < 8) : f_X5_hint_L90 τ (nI i) (nI m) = if 0 < leftm (htd τ i m) i then f_X5_hint_L155 (htd τ i m) (nI m) else kh_bd (f_X5_leaves (htd τ i m) (nI i) 2) (fun ρ_5 => f_X5_hint_L155 ρ_5 (nI m)) := by
  have hci : (nI i).toNatClampNeg = i := nI_clamp (by omega)
  have hc8 : (nI (8 * i + m)).toNatClampNeg = 8 * i + m := nI_clamp (by omega)
  unfold f_X5_hint_L90
  rw [kp_gdT (kp_in hi (by omega)), at8, kp_gdT (kp_in (show 8 * i + m < 240 by omega) (by omega)), hci, hc8]
  have e42 : (kh_up τ 40 0 0 i (τ 40 0 0 i + ((2 : Int32) + (3 : Int32) * τ 42 0 0 (8 * i + m)))) 42 0 0 (8 * i + m) = τ 42 0 0 (8 * i + m) := rd_ne (by decide)
  rw [e42]
  have e41 : (kh_up (kh_up τ 40 0 0 i (τ 40 0 0 i + ((2 : Int32) + (3 : Int32) * τ 42 0 0 (8 * i + m)))) 42 0 0 (8 * i + m) (τ 42 0 0 (8 * i + m) + 1)) 41 0 0 i = τ 41 0 0 i := by rw [rd_ne (by decide), rd_ne (by decide)]
  rw [e41]
  show kh_bd (f_X5_left (htd τ i m) (nI i)) _ = _
  rw [m_left _ hi, kp_bd]
  rfl
theorem q_hint (gg : good σ R G B P) (a1 : Int32) : stepOK (fun ρ => f_L_hint ρ a1) (fun τ => f_X5_hint τ a1) σ R G B P := by
  have g := gg.1
  have h4 := g.R4
  have h30 := g.G30
  rcases ix_cases a1 G (by omega) with h | ⟨i, hi, rfl⟩
  · refine stepE gg 1 0 (by decide) (fun ρ q => ?_) (fun τ gt _ => ?_)
    · show f_L_hint ρ a1 = _
      unfold f_L_hint f_X4_hint
      rw [c_gn0 q h, kp_bxl, kx_l, if_pos rfl]
      rfl
    · show f_X5_hint τ a1 = _
      unfold f_X5_hint f_X5_hint_L29
      rw [m_isGroup gt, if_pos h, kp_bd, if_pos rfl, m_ref1, kp_bd2, if_neg one_ne]
  obtain ⟨r, hr, z, -⟩ := g.g i hi
  have hci : (nI i).toNatClampNeg = i := nI_clamp (by omega)
  have hcr : (nI r).toNatClampNeg = r := nI_clamp (by omega)
  have h8 := (g.r r hr).2.1
  have hi30 : kh_in (nI i) 30 = true := kp_in (show i < 30 by omega) (by omega)
  by_cases hp : σ 35 0 0 i = 0
  · have g1 := eqv_good (eqv_thr σ 0) gg
    generalize hs : kh_up σ 15 0 0 0 0 = σ1 at g1
    have t1 : σ1 15 0 0 0 = 0 := by rw [← hs]; exact up_at _ _ _ _ _ _
    have z1 : σ1 36 0 0 i = nI r := by rw [← hs]; simpa [up_rd] using z
    have hp1 : σ1 35 0 0 i = 0 := by rw [← hs]; simpa [up_rd] using hp
    obtain ⟨w, m, x1, x2, x3, x4, x5, x6, x7⟩ := hint_ex g1 hi hr z1 hp1
    have g2 := good_htd (m := m) g1 hi (by omega)
    have z2 : htd σ1 i m 36 0 0 i = nI r := by rw [htd_ne _ _ _ (by omega)]; exact z1
    have hp2 : htd σ1 i m 35 0 0 i = 0 := by rw [htd_ne _ _ _ (by omega)]; exact hp1
    have hC : ∀ ρ, relC ρ σ1 R G B P → ∃ ρ', relC ρ' (htd σ1 i m) R G B P ∧ frC ρ ρ' ∧ f_L_hint ρ (nI i) = kh_hx (kh_bd (f_X4_leaveIfLate ρ' (nI i)) (fun ρ_13 => some (.inr (nI m, ρ_13)))) (fun E => if E = kh_E3 then some (1 : Int32) else (if E = kh_E2 then some (2 : Int32) else none)) (fun r => some ((0 : Int32), kh_up r.2 60 0 0 (0 : Int32).toNatClampNeg r.1)) := by
      intro ρ q
      obtain ⟨ρ', k1, k2, k3⟩ := c_htd (m := m) q g1.1 hi (by omega)
      obtain ⟨w0, w1, w2, w4, w5, w6, w7, w8, w9⟩ := q.g i hi
      refine ⟨ρ', k2, k3, ?_⟩
      unfold f_L_hint f_X4_hint
      rw [c_gn1 q g1.1 hi, kp_bxr, kp_gdT (q.i11 g1.1 hi), hci, w6, if_pos hp1, c_wayOf q g1.1 hi hr z1, kp_bd, x2, w1, z1, kp_gdT (q.i6 g1.1 hr), hcr, w8, c_lowest1 (q.kR g1.1 hr) (nI w) _ x4 x5.1 x5.2.2 x6, kp_bd, if_neg (nI_m1 (by omega)), k1, kp_bd]
    have hM : ∀ τ, good0 τ R G B P → kM τ σ → kM (htd (kh_up τ 15 0 0 0 0) i m) (htd σ1 i m) ∧ frM τ (htd (kh_up τ 15 0 0 0 0) i m) ∧ f_X5_hint τ (nI i) = if 0 < leftm (htd σ1 i m) i then f_X5_hint_L155 (htd (kh_up τ 15 0 0 0 0) i m) (nI m) else kh_bd (f_X5_leaves (htd (kh_up τ 15 0 0 0 0) i m) (nI i) 2) (fun ρ_5 => f_X5_hint_L155 ρ_5 (nI m)) := by
      intro τ gt e
      have e1 : kM (kh_up τ 15 0 0 0 0) σ1 := by rw [← hs]; exact kM_up e 15 0 0 0 rfl
      have gt1 := eqv_good0 (eqv_M e1) g1.1
      have zt : kh_up τ 15 0 0 0 0 36 0 0 i = nI r := by rw [e1 36 (by omega) (by omega)]; exact z1
      refine ⟨kM_htd e1 i m, frM_htd (frM_up (frM_rfl τ) (by omega)) i m, ?_⟩
      have hmay : ∀ k, mayb (kh_up τ 15 0 0 0 0) i r k = mayb σ1 i r k := fun k => mayb_eqv (eqv_M e1) i r k
      have hwy : wyS (kh_up τ 15 0 0 0 0) P i r = wyS σ1 P i r := by
        obtain ⟨v, v1, v2, -⟩ := eqv_w (eqv_M e1) r
        have vo : opS (kh_up τ 15 0 0 0 0) i r = opS σ1 i r := by
          funext k
          unfold opS
          rw [v, e1 38 (by omega) (by omega)]
        unfold wyS
        rw [vo, v1, v2, e1 37 (by omega) (by omega)]
      unfold f_X5_hint f_X5_hint_L29
      rw [m_isGroup gt, if_neg (no_ix hi (by omega)), kp_bd, if_neg one_ne, kp_gdT hi30, hci, e 35 (by omega) (by omega), if_pos hp, m_ref0, kp_bd2, if_pos rfl, m_wayOf gt1 hi hr zt, kp_bd, hwy, x3, m_own gt1 hi hr zt x1 x4 ⟨x5.1, by rw [hmay]; exact x5.2.1⟩ (fun k hk => by
        rw [hmay]
        cases e5 : bt (nI w) k with
        | false => rfl
        | true => rw [x7 k (by omega) e5, x6 k hk e5]; rfl), kp_bd]
      show f_X5_hint_L90 (kh_up τ 15 0 0 0 0) (nI i) (nI m) = _
      rw [m_L90 _ (show i < 30 by omega) (by omega), leftm_eqv (eqv_M (kM_htd e1 i m))]
    by_cases hl : 0 < leftm (htd σ1 i m) i
    · refine stepG gg g2 (by rw [htd_ne _ _ _ (by omega)]; exact t1) (nI m) (fun ρ q => ?_) (fun τ gt e => ?_)
      · rw [hs] at q
        obtain ⟨ρ', q', f', e'⟩ := hC ρ q
        refine ⟨ρ', ?_, q', f'⟩
        show f_L_hint ρ (nI i) = _
        rw [e']
        unfold f_X4_leaveIfLate f_X4_leaveIfLate_L16
        rw [kp_gdT (q'.i11 g2.1 hi), hci, c_minutesLeft q' g2.1 hi, kp_bd, if_pos hl, kp_bd, kx_r]
      · obtain ⟨k', f', e'⟩ := hM τ gt e
        refine ⟨_, ?_, k', f'⟩
        show f_X5_hint τ (nI i) = _
        rw [e', if_pos hl]
        rfl
    · refine stepG gg (good_lv g2 hi hr z2 hp2 (show (2 : Int32) ≠ 0 by decide)) (by rw [lv_ne (by omega), htd_ne _ _ _ (by omega)]; exact t1) (nI m) (fun ρ q => ?_) (fun τ gt e => ?_)
      · rw [hs] at q
        obtain ⟨ρ', q', f', e'⟩ := hC ρ q
        obtain ⟨ρ2, l1, l2, l3⟩ := c_leave q' g2.1 hi hr z2 2
        refine ⟨ρ2, ?_, l2, frC_tr f' l3⟩
        show f_L_hint ρ (nI i) = _
        rw [e']
        unfold f_X4_leaveIfLate f_X4_leaveIfLate_L16
        rw [kp_gdT (q'.i11 g2.1 hi), hci, c_minutesLeft q' g2.1 hi, kp_bd, if_neg hl, l1, kp_bd, kp_bd, kx_r]
      · obtain ⟨k', f', e'⟩ := hM τ gt e
        refine ⟨lv (htd (kh_up τ 15 0 0 0 0) i m) i 2 r, ?_, kM_lv k' i 2 r, frM_lv f' i 2 r⟩
        show f_X5_hint τ (nI i) = _
        rw [e', if_neg hl, m_leaves _ (show i < 30 by omega) (show r < 4 by omega) (by rw [k' 36 (by omega) (by omega)]; exact z2), kp_bd]
        rfl
  · refine stepE gg 2 0 (by decide) (fun ρ q => ?_) (fun τ gt e => ?_)
    · show f_L_hint ρ (nI i) = _
      unfold f_L_hint f_X4_hint
      rw [c_gn1 q g hi, kp_bxr, kp_gdT (q.i11 g hi), hci, (q.g i hi).2.2.2.2.2.1, if_neg hp, kx_l]
      simp only [kE2_3, if_false, if_true]
      rfl
    · show f_X5_hint τ (nI i) = _
      unfold f_X5_hint f_X5_hint_L29
      rw [m_isGroup gt, if_neg (no_ix hi (by omega)), kp_bd, if_neg one_ne, kp_gdT hi30, hci, e 35 (by omega) (by omega), if_neg hp, m_ref2, kp_bd2, if_neg one_ne]
end HINT
