/-! orders: set by set, upwards (the class) and downwards (the reference) -/
theorem kp_R_fr {ρ ρ' : kh_S} {r p : Nat} {nd gv pr : Nat → Int32} (h : ∀ k, k ≠ 5 → ρ' k = ρ k) (q : kp_R ρ r p nd gv pr) : kp_R ρ' r p nd gv pr := by
  have e6 := h 6 (by omega)
  have e7 := h 7 (by omega)
  have e8 := h 8 (by omega)
  have e9 := h 9 (by omega)
  have e61 := h 61 (by omega)
  unfold kp_R kh_n at q ⊢
  rw [e6, e7, e8, e9, e61]
  exact q
theorem relC_5 {ρ ρ' σ : kh_S} {R G B : Nat} {P : Nat → Nat} (e : ∀ k, k ≠ 5 → ρ' k = ρ k) (q : relC ρ σ R G B P) : relC ρ' σ R G B P := by
  unfold relC cS cA cR cG cW cB at q ⊢
  simp only [e 0 (by decide), e 1 (by decide), e 2 (by decide), e 3 (by decide), e 4 (by decide), e 6 (by decide), e 7 (by decide), e 8 (by decide), e 9 (by decide), e 10 (by decide), e 11 (by decide), e 12 (by decide), e 13 (by decide), e 14 (by decide), e 61 (by decide)]
  exact q
theorem kh_n_5 {ρ ρ' : kh_S} (e : ∀ k, k ≠ 5 → ρ' k = ρ k) : kh_n ρ' 6 = kh_n ρ 6 := by
  show (ρ' 61 0 0 0).toNatClampNeg = (ρ 61 0 0 0).toNatClampNeg
  rw [e 61 (by decide)]
/-- the ways that are still to be followed -/
def wsum (W : Nat → Int32) (w : Nat → Int32) (i N : Nat) : Int32 := sm (fun t => if i ≤ t then w t * W t else 0) N
theorem wsum_end (W w : Nat → Int32) (N : Nat) : wsum W w N N = 0 := sm_zero (fun k hk => if_neg (by omega))
theorem wsum_step (W w : Nat → Int32) {i N : Nat} (h : i < N) : wsum W w i N = wsum W w (i + 1) N + w i * W i := by
  unfold wsum
  refine sm_at (t := i) ?_ (fun k hk => ?_) h
  · rw [if_pos (Nat.le_refl _), if_neg (by omega)]
    grind
  · by_cases e : i ≤ k
    · rw [if_pos e, if_pos (by omega)]
    · rw [if_neg e, if_neg (by omega)]
section ORD
variable {ρ σ τ : kh_S} {R G B : Nat} {P : Nat → Nat}
theorem c_behind {r p : Nat} {nd gv pr : Nat → Int32} (Rk : kp_R ρ r p nd gv pr) (hin : kh_in (nI r) (kh_n ρ 6) = true) (hr : r < 4) (S : Nat → Bool) (th : Int32) (W : Nat → Int32) {i : Nat} (hi : i < 2 ^ p) {left : Int32} (hl : ∀ k, k < p → bt left k = (S k && !bt (nI i) k)) : ∃ ρ', f_X4_addWaysBehind ρ (nI r) (nI i) (hS gv th p i) left = some ρ' ∧ (∀ k, k ≠ 5 → ρ' k = ρ k) ∧ wsum W (ρ' 5 0 0) (i + 1) (2 ^ p) = wsum W (ρ 5 0 0) (i + 1) (2 ^ p) + ρ 5 0 0 i * sm (fun k => if can S nd gv th p i k = true then W (i ||| 2 ^ k) else 0) p := by
  have hcr : (nI r).toNatClampNeg = r := nI_clamp (by omega)
  have hp : p ≤ 8 := Rk.2.2.1
  have h256 := pow_p p hp
  have hloop : ∃ ρ', kh_lp (fun a : kh_S × Int32 => f_X4_addWaysBehind_B3 (nI r) (nI i) (hS gv th p i) left a.1 a.2) 9999 (ρ, (0 : Int32)) = some ρ' ∧ ((∀ k, k ≠ 5 → ρ' k = ρ k) ∧ wsum W (ρ' 5 0 0) (i + 1) (2 ^ p) = wsum W (ρ 5 0 0) (i + 1) (2 ^ p) + ρ 5 0 0 i * sm (fun k => if can S nd gv th p i k = true then W (i ||| 2 ^ k) else 0) p) := by
    refine kp_lpR p (fun k a => a.2 = nI k ∧ (∀ k, k ≠ 5 → a.1 k = ρ k) ∧ a.1 5 0 0 i = ρ 5 0 0 i ∧ wsum W (a.1 5 0 0) (i + 1) (2 ^ p) = wsum W (ρ 5 0 0) (i + 1) (2 ^ p) + ρ 5 0 0 i * sm (fun k => if can S nd gv th p i k = true then W (i ||| 2 ^ k) else 0) k) (fun k a hk h => ?_) (fun a h => ?_) 9999 (by omega) (ρ, 0) ⟨rfl, fun _ _ => rfl, rfl, ?_⟩
    · obtain ⟨ρ1, y⟩ := a
      obtain ⟨e1, e2, e3, e4⟩ := h
      dsimp only at e1 e2 e3 e4
      subst e1
      have Rk1 := kp_R_fr e2 Rk
      have hin1 : kh_in (nI r) (kh_n ρ1 6) = true := by rw [kh_n_5 e2]; exact hin
      have hi256 : kh_in (nI i) 256 = true := kp_in (show i < 256 by omega) (by omega)
      show ∃ a', f_X4_addWaysBehind_B3 (nI r) (nI i) (hS gv th p i) left ρ1 (nI k) = some (.inl a') ∧ a'.2 = nI (k + 1) ∧ (∀ k, k ≠ 5 → a'.1 k = ρ k) ∧ a'.1 5 0 0 i = ρ 5 0 0 i ∧ wsum W (a'.1 5 0 0) (i + 1) (2 ^ p) = wsum W (ρ 5 0 0) (i + 1) (2 ^ p) + ρ 5 0 0 i * (sm (fun k => if can S nd gv th p i k = true then W (i ||| 2 ^ k) else 0) k + (if can S nd gv th p i k = true then W (i ||| 2 ^ k) else 0))
      have hno : can S nd gv th p i k = false → wsum W (ρ1 5 0 0) (i + 1) (2 ^ p) = wsum W (ρ 5 0 0) (i + 1) (2 ^ p) + ρ 5 0 0 i * (sm (fun k => if can S nd gv th p i k = true then W (i ||| 2 ^ k) else 0) k + (if can S nd gv th p i k = true then W (i ||| 2 ^ k) else 0)) := by
        intro z
        rw [z, if_neg (by decide), Int32.add_zero]
        exact e4
      unfold f_X4_addWaysBehind_B3 f_X4_addWaysBehind_L52
      rw [kp_gdT hin1, hcr, Rk1.2.1, if_neg (nI_ge hk (by omega)), c_has _ _ (by omega), kp_bd, hl k hk, c_isSolvable Rk1 hk, kp_bd, c_with, kp_bd, bt_set (by omega), nI_1]
      cases e1 : S k with
      | false =>
        rw [Bool.false_and, if_pos (by decide)]
        exact ⟨_, rfl, rfl, e2, e3, hno (by unfold can; rw [e1]; simp)⟩
      | true =>
        rw [Bool.true_and]
        cases e5 : bt (nI i) k with
        | true =>
          rw [if_pos (by decide)]
          exact ⟨_, rfl, rfl, e2, e3, hno (by unfold can; rw [e5]; simp)⟩
        | false =>
          rw [if_neg (by decide)]
          cases e6 : sv (nd k) (hS gv th p i) with
          | false =>
            rw [if_pos (by decide)]
            exact ⟨_, rfl, rfl, e2, e3, hno (by unfold can; rw [e6]; simp)⟩
          | true =>
            have hcan : can S nd gv th p i k = true := by unfold can; rw [e1, e5, e6]; rfl
            have hlt := set_lt hi hk
            have hgt := set_gt (s := i) (k := k) (by omega) e5
            rw [if_neg (by decide), kp_gdT (kp_in (show i ||| 2 ^ k < 256 by omega) (by omega)), kp_gdT hi256, nI_clamp (show i ||| 2 ^ k < 2 ^ 31 by omega), nI_clamp (show i < 2 ^ 31 by omega), e3]
            refine ⟨_, rfl, rfl, fun k' h' => (up_k h').trans (e2 k' h'), ?_, ?_⟩
            · show kh_up ρ1 5 0 0 (i ||| 2 ^ k) _ 5 0 0 i = _
              rw [kh_up_ne (by omega)]
              exact e3
            · show wsum W (kh_up ρ1 5 0 0 (i ||| 2 ^ k) (ρ1 5 0 0 (i ||| 2 ^ k) + ρ 5 0 0 i) 5 0 0) (i + 1) (2 ^ p) = _
              have h9 : wsum W (kh_up ρ1 5 0 0 (i ||| 2 ^ k) (ρ1 5 0 0 (i ||| 2 ^ k) + ρ 5 0 0 i) 5 0 0) (i + 1) (2 ^ p) = wsum W (ρ1 5 0 0) (i + 1) (2 ^ p) + ρ 5 0 0 i * W (i ||| 2 ^ k) := by
                unfold wsum
                refine sm_at (t := i ||| 2 ^ k) ?_ (fun k' h' => ?_) hlt
                · rw [if_pos (by omega), if_pos (by omega), up_at]
                  grind
                · rw [kh_up_ne (fun z => h' z.2.2.2)]
              rw [h9, e4, hcan, if_pos rfl]
              grind
    · obtain ⟨ρ1, y⟩ := a
      obtain ⟨e1, e2, e3, e4⟩ := h
      dsimp only at e1 e2 e3 e4
      subst e1
      have Rk1 := kp_R_fr e2 Rk
      have hin1 : kh_in (nI r) (kh_n ρ1 6) = true := by rw [kh_n_5 e2]; exact hin
      refine ⟨ρ1, ?_, e2, e4⟩
      show f_X4_addWaysBehind_B3 (nI r) (nI i) _ left ρ1 (nI p) = _
      unfold f_X4_addWaysBehind_B3
      rw [kp_gdT hin1, hcr, Rk1.2.1, if_pos (nI_le (Nat.le_refl _) (by omega))]
    · show wsum W (ρ 5 0 0) (i + 1) (2 ^ p) = wsum W (ρ 5 0 0) (i + 1) (2 ^ p) + ρ 5 0 0 i * 0
      grind
  obtain ⟨ρ', h1, h2, h3⟩ := hloop
  refine ⟨ρ', ?_, h2, h3⟩
  unfold f_X4_addWaysBehind
  rw [h1]
  rfl
theorem c_sets (q : relC ρ σ R G B P) (g : good0 σ R G B P) {r : Nat} (hr : r < R) : ∃ ρ', f_X4_countOrdersBySets ρ (nI r) = some (Wn (wk σ r) (rnd σ r) (rgv σ r) (σ 24 0 0 r) (P r) 0, ρ') ∧ ∀ k, k ≠ 5 → ρ' k = ρ k := by
  have h4 := g.R4
  have hp := (g.r r hr).2.1
  have h256 := pow_p (P r) hp
  have hcr : (nI r).toNatClampNeg = r := nI_clamp (by omega)
  have Rk := q.kR g hr
  have hin := q.i6 g hr
  generalize hW : Wn (wk σ r) (rnd σ r) (rgv σ r) (σ 24 0 0 r) (P r) = W
  have hpos : 0 < 2 ^ P r := Nat.pow_pos (by omega)
  unfold f_X4_countOrdersBySets
  rw [kp_gdT hin, hcr, c_wk q g hr, kp_bd, Rk.2.1, shl_p _ hp]
  have hz : ∃ ρ1, kh_lp (fun a : kh_S × Int32 => f_X4_countOrdersBySets_B19 (nI r) (bset (wk σ r) (P r)) (nI (2 ^ P r)) a.1 a.2) 9999 (ρ, (0 : Int32)) = some ρ1 ∧ ((∀ k, k ≠ 5 → ρ1 k = ρ k) ∧ ∀ t, t < 2 ^ P r → ρ1 5 0 0 t = 0) := by
    refine kp_lpR (2 ^ P r) (fun j a => a.2 = nI j ∧ (∀ k, k ≠ 5 → a.1 k = ρ k) ∧ ∀ t, t < j → a.1 5 0 0 t = 0) (fun j a hj h => ?_) (fun a h => ?_) 9999 (by omega) (ρ, 0) ⟨rfl, fun _ _ => rfl, fun t ht => by omega⟩
    · obtain ⟨ρ1, y⟩ := a
      obtain ⟨e1, e2, e3⟩ := h
      dsimp only at e1 e2 e3
      subst e1
      refine ⟨(kh_up ρ1 5 0 0 j 0, nI (j + 1)), ?_, rfl, fun k h => (up_k h).trans (e2 k h), fun t ht => ?_⟩
      · show f_X4_countOrdersBySets_B19 _ _ _ ρ1 (nI j) = _
        unfold f_X4_countOrdersBySets_B19
        rw [if_neg (nI_ge hj (by omega)), kp_gdT (kp_in (show j < 256 by omega) (by omega)), nI_clamp (show j < 2 ^ 31 by omega), nI_1]
      · show kh_up ρ1 5 0 0 j 0 5 0 0 t = 0
        by_cases e : t = j
        · subst e; exact up_at _ _ _ _ _ _
        · rw [kh_up_ne (fun z => e z.2.2.2)]; exact e3 t (by omega)
    · obtain ⟨ρ1, y⟩ := a
      obtain ⟨e1, e2, e3⟩ := h
      dsimp only at e1 e2 e3
      subst e1
      refine ⟨ρ1, ?_, e2, e3⟩
      show f_X4_countOrdersBySets_B19 _ _ _ ρ1 (nI (2 ^ P r)) = _
      unfold f_X4_countOrdersBySets_B19
      rw [if_pos (nI_le (Nat.le_refl _) (by omega))]
  obtain ⟨ρ1, z1, z2, z3⟩ := hz
  rw [z1, kp_bd]
  unfold f_X4_countOrdersBySets_A19 f_X4_countOrdersBySets_L39
  rw [kp_gdT (show kh_in (0 : Int32) 256 = true from by decide)]
  have hz0 : (0 : Int32).toNatClampNeg = 0 := rfl
  rw [hz0]
  have hl : ∃ b : kh_S × Int32, kh_lp (fun a : kh_S × Int32 × Int32 => f_X4_countOrdersBySets_B52 (nI r) (bset (wk σ r) (P r)) (nI (2 ^ P r)) a.1 a.2.1 a.2.2) 9999 (kh_up ρ1 5 0 0 0 1, (0 : Int32), (0 : Int32)) = some b ∧ (b.2 = W 0 ∧ ∀ k, k ≠ 5 → b.1 k = ρ k) := by
    refine kp_lpR (2 ^ P r) (fun i a => a.2.2 = nI i ∧ (∀ k, k ≠ 5 → a.1 k = ρ k) ∧ a.2.1 + wsum W (a.1 5 0 0) i (2 ^ P r) = W 0) (fun i a hi h => ?_) (fun a h => ?_) 9999 (by omega) (kh_up ρ1 5 0 0 0 1, 0, 0) ⟨rfl, fun k h => (up_k h).trans (z2 k h), ?_⟩
    · obtain ⟨ρ2, fnd, y⟩ := a
      obtain ⟨e1, e2, e3⟩ := h
      dsimp only at e1 e2 e3
      subst e1
      have Rk2 := kp_R_fr e2 Rk
      have q2 := relC_5 e2 q
      have hin2 : kh_in (nI r) (kh_n ρ2 6) = true := by rw [kh_n_5 e2]; exact hin
      have hheld : ρ2 6 1 r 0 ||| gby (bt (nI i)) (rgv σ r) (P r) = hS (rgv σ r) (σ 24 0 0 r) (P r) i := by
        rw [(q2.r r hr).2.1]
        rfl
      show ∃ a', f_X4_countOrdersBySets_B52 (nI r) (bset (wk σ r) (P r)) (nI (2 ^ P r)) ρ2 fnd (nI i) = some (.inl a') ∧ a'.2.2 = nI (i + 1) ∧ (∀ k, k ≠ 5 → a'.1 k = ρ k) ∧ a'.2.1 + wsum W (a'.1 5 0 0) (i + 1) (2 ^ P r) = W 0
      unfold f_X4_countOrdersBySets_B52 f_X4_countOrdersBySets_L110
      rw [if_neg (nI_ge hi (by omega)), kp_gdT hin2, hcr, c_givenBy Rk2, kp_bd, hheld, c_has0, kp_bd, nI_1]
      rw [wsum_step W _ hi] at e3
      cases e : bt (hS (rgv σ r) (σ 24 0 0 r) (P r) i) 0 with
      | true =>
        rw [if_neg (by decide), kp_gdT (kp_in (show i < 256 by omega) (by omega)), nI_clamp (show i < 2 ^ 31 by omega)]
        refine ⟨_, rfl, rfl, e2, ?_⟩
        have hWi : W i = 1 := by rw [← hW]; exact Wn_out e
        rw [hWi] at e3
        show fnd + ρ2 5 0 0 i + wsum W (ρ2 5 0 0) (i + 1) (2 ^ P r) = W 0
        grind
      | false =>
        have hWi : W i = sm (fun k => if can (wk σ r) (rnd σ r) (rgv σ r) (σ 24 0 0 r) (P r) i k = true then W (i ||| 2 ^ k) else 0) (P r) := by rw [← hW]; exact Wn_in hp e
        obtain ⟨ρ3, b1, b2, b3⟩ := c_behind Rk2 hin2 (show r < 4 by omega) (wk σ r) (σ 24 0 0 r) W hi (left := bset (wk σ r) (P r) &&& (nI i ^^^ (-1))) (fun k hk => by
          rw [bt_open hp _ (by omega), decide_eq_true hk, Bool.true_and])
        rw [if_pos (by decide), b1, kp_bd]
        refine ⟨_, rfl, rfl, fun k h => (b2 k h).trans (e2 k h), ?_⟩
        show fnd + wsum W (ρ3 5 0 0) (i + 1) (2 ^ P r) = W 0
        rw [b3, ← hWi]
        exact e3
    · obtain ⟨ρ2, fnd, y⟩ := a
      obtain ⟨e1, e2, e3⟩ := h
      dsimp only at e1 e2 e3
      subst e1
      refine ⟨(ρ2, fnd), ?_, ?_, e2⟩
      · show f_X4_countOrdersBySets_B52 _ _ _ ρ2 fnd (nI (2 ^ P r)) = _
        unfold f_X4_countOrdersBySets_B52
        rw [if_pos (nI_le (Nat.le_refl _) (by omega))]
      · rw [wsum_end, Int32.add_zero] at e3
        exact e3
    · show (0 : Int32) + wsum W (kh_up ρ1 5 0 0 0 1 5 0 0) 0 (2 ^ P r) = W 0
      have h9 : wsum W (kh_up ρ1 5 0 0 0 1 5 0 0) 0 (2 ^ P r) = sm (fun _ => 0) (2 ^ P r) + W 0 := by
        have hc : wsum W (kh_up ρ1 5 0 0 0 1 5 0 0) 0 (2 ^ P r) = sm (fun t => if t = 0 then W 0 else 0) (2 ^ P r) := by
          unfold wsum
          refine sm_cong fun t ht => ?_
          rw [if_pos (by omega)]
          by_cases e : t = 0
          · subst e
            rw [up_at, if_pos rfl]
            grind
          · rw [kh_up_ne (fun z => e z.2.2.2), z3 t ht, if_neg e]
            grind
        rw [hc]
        refine sm_at (t := 0) ?_ (fun k hk => ?_) hpos
        · rw [if_pos rfl]; grind
        · rw [if_neg hk]
      rw [h9, sm_zero (fun _ _ => rfl)]
      grind
  obtain ⟨⟨ρ', fnd⟩, l1, l2, l3⟩ := hl
  rw [l1, kp_bd]
  unfold f_X4_countOrdersBySets_A52 f_X4_countOrdersBySets_L116
  have l2 : fnd = W 0 := l2
  refine ⟨ρ', ?_, l3⟩
  rw [← l2]
/-! the reference -/
def ordT (W : Nat → Int32) (N : Nat) (σ : kh_S) : Nat → kh_S
  | 0 => σ
  | j + 1 => kh_up (ordT W N σ j) 52 0 0 (N - j - 1) (W (N - j - 1))
theorem ordT_ne (W : Nat → Int32) (N : Nat) (σ : kh_S) {k : Nat} (h : k ≠ 52) : ∀ j, ordT W N σ j k = σ k
  | 0 => rfl
  | j + 1 => (up_k h).trans (ordT_ne W N σ h j)
theorem ordT_at (W : Nat → Int32) (N : Nat) (σ : kh_S) : ∀ j, j ≤ N → ∀ t, N - j ≤ t → t < N → ordT W N σ j 52 0 0 t = W t
  | 0, _, t, h1, h2 => by omega
  | j + 1, hj, t, h1, h2 => by
    show kh_up (ordT W N σ j) 52 0 0 (N - j - 1) (W (N - j - 1)) 52 0 0 t = W t
    by_cases e : t = N - j - 1
    · subst e; exact up_at _ _ _ _ _ _
    · rw [kh_up_ne (fun z => e z.2.2.2)]
      exact ordT_at W N σ j (by omega) t (by omega) h2
theorem kM_ordT (h : kM τ σ) (W : Nat → Int32) (N : Nat) : ∀ j, kM (ordT W N τ j) (ordT W N σ j)
  | 0 => h
  | j + 1 => kM_up (kM_ordT h W N j) 52 0 0 _ rfl
theorem frM_ordT {a b : kh_S} (h : frM a b) (W : Nat → Int32) (N : Nat) : ∀ j, frM a (ordT W N b j)
  | 0 => h
  | j + 1 => frM_up (frM_ordT h W N j) (by omega)
theorem eqv_ordT {a b : kh_S} (h : eqv a b) (W : Nat → Int32) (N : Nat) : ∀ j, eqv a (ordT W N b j)
  | 0 => h
  | j + 1 => eqv_ways (eqv_ordT h W N j) 0 0 _ _
theorem m_set (g : good0 τ R G B P) {r : Nat} (hr : r < R) {s : Nat} (hs : s < 2 ^ P r) (W : Nat → Int32) (hW : W = Wn (wk τ r) (rnd τ r) (rgv τ r) (τ 24 0 0 r) (P r)) (ht : ∀ t, s < t → t < 2 ^ P r → τ 52 0 0 t = W t) : f_X5_orders_B33 (nI r) τ (nI s) = some (.inl (kh_up τ 52 0 0 s (W s), nI s - 1)) := by
  have h4 := g.R4
  have hp := (g.r r hr).2.1
  have h256 := pow_p (P r) hp
  have hcr : (nI r).toNatClampNeg = r := nI_clamp (by omega)
  have e25 := (g.r r hr).1
  have hsub : nI s + (-1) = nI s - 1 := by grind
  unfold f_X5_orders_B33
  rw [if_neg (nI_pos (by omega)), kp_gdT (kp_in (show r < 4 by omega) (by omega)), hcr, m_heldBy τ (show r < 4 by omega) e25 hp, kp_bd]
  show kh_bd (kh_lp (fun a : Int32 × Int32 => f_X5_orders_B58 (nI r) τ (nI s) (hS (rgv τ r) (τ 24 0 0 r) (P r) s) a.1 a.2) 9999 (hS (rgv τ r) (τ 24 0 0 r) (P r) s &&& 1, (0 : Int32))) (f_X5_orders_A58 (nI r) τ (nI s) (hS (rgv τ r) (τ 24 0 0 r) (P r) s)) = _
  have hl : kh_lp (fun a : Int32 × Int32 => f_X5_orders_B58 (nI r) τ (nI s) (hS (rgv τ r) (τ 24 0 0 r) (P r) s) a.1 a.2) 9999 (hS (rgv τ r) (τ 24 0 0 r) (P r) s &&& 1, (0 : Int32)) = some (W s) := by
    cases e : bt (hS (rgv τ r) (τ 24 0 0 r) (P r) s) 0 with
    | true =>
      have e1 : hS (rgv τ r) (τ 24 0 0 r) (P r) s &&& 1 = 1 := (kp_a1' _).mpr e
      have eW : W s = 1 := by rw [hW]; exact Wn_out e
      rw [e1, eW]
      refine kp_lp 0 (fun _ => (1, 0)) (fun j hj => by omega) ?_ 9999 (by omega)
      show f_X5_orders_B58 (nI r) τ (nI s) _ 1 0 = _
      unfold f_X5_orders_B58
      rw [kp_gdT (kp_in (show r < 4 by omega) (by omega)), e1, if_neg one_ne]
      split <;> rfl
    | false =>
      have e0 : hS (rgv τ r) (τ 24 0 0 r) (P r) s &&& 1 = 0 := (kp_a1 _).mpr e
      have eW : W s = sm (fun k => if can (wk τ r) (rnd τ r) (rgv τ r) (τ 24 0 0 r) (P r) s k = true then W (s ||| 2 ^ k) else 0) (P r) := by rw [hW]; exact Wn_in hp e
      rw [e0, eW]
      refine kp_lp (P r) (fun k => (sm (fun k => if can (wk τ r) (rnd τ r) (rgv τ r) (τ 24 0 0 r) (P r) s k = true then W (s ||| 2 ^ k) else 0) k, nI k)) (fun k hk => ?_) ?_ 9999 (by omega)
      · show f_X5_orders_B58 (nI r) τ (nI s) _ (sm (fun k => if can (wk τ r) (rnd τ r) (rgv τ r) (τ 24 0 0 r) (P r) s k = true then W (s ||| 2 ^ k) else 0) k) (nI k) = some (.inl (sm (fun k => if can (wk τ r) (rnd τ r) (rgv τ r) (τ 24 0 0 r) (P r) s k = true then W (s ||| 2 ^ k) else 0) k + (if can (wk τ r) (rnd τ r) (rgv τ r) (τ 24 0 0 r) (P r) s k = true then W (s ||| 2 ^ k) else 0), nI (k + 1)))
        generalize sm (fun k => if can (wk τ r) (rnd τ r) (rgv τ r) (τ 24 0 0 r) (P r) s k = true then W (s ||| 2 ^ k) else 0) k = acc
        unfold f_X5_orders_B58 f_X5_orders_L120 f_X5_orders_L121 f_X5_orders_L145
        rw [kp_gdT (kp_in (show r < 4 by omega) (by omega)), hcr, e25, if_neg (nI_ge hk (by omega)), e0, if_pos rfl, at8, m_isOut g hr hk, kp_bd, kp_gdT (kp_in (show 8 * r + k < 32 by omega) (by omega)), nI_clamp (show 8 * r + k < 2 ^ 31 by omega), bt_set (by omega), nI_1]
        have hno : can (wk τ r) (rnd τ r) (rgv τ r) (τ 24 0 0 r) (P r) s k = false → acc + (if can (wk τ r) (rnd τ r) (rgv τ r) (τ 24 0 0 r) (P r) s k = true then W (s ||| 2 ^ k) else 0) = acc + 0 := by
          intro z
          rw [z, if_neg (by decide)]
        cases e5 : bt (nI s) k with
        | true =>
          rw [if_neg (fun z => by rw [(kp_shrF k (by omega) _).mp z] at e5; cases e5), if_pos rfl, hno (by unfold can; rw [e5]; simp)]
        | false =>
          rw [if_pos ((kp_shrF k (by omega) _).mpr e5)]
          cases e1 : wk τ r k with
          | false => rw [if_neg (by decide), if_pos rfl, hno (by unfold can; rw [e1]; simp)]
          | true =>
            rw [if_pos (by decide)]
            cases e6 : sv (rnd τ r k) (hS (rgv τ r) (τ 24 0 0 r) (P r) s) with
            | false =>
              have e7 : ¬ (τ 30 0 0 (8 * r + k) &&& (hS (rgv τ r) (τ 24 0 0 r) (P r) s ^^^ (-1))) = 0 := sv_neg e6
              rw [if_neg e7, if_pos rfl, hno (by unfold can; rw [e6]; simp)]
            | true =>
              have e7 : (τ 30 0 0 (8 * r + k) &&& (hS (rgv τ r) (τ 24 0 0 r) (P r) s ^^^ (-1))) = 0 := sv_pos e6
              have hcan : can (wk τ r) (rnd τ r) (rgv τ r) (τ 24 0 0 r) (P r) s k = true := by unfold can; rw [e1, e5, e6]; rfl
              have hlt := set_lt hs hk
              have hgt := set_gt (s := s) (k := k) (by omega) e5
              rw [if_pos e7, if_neg one_ne, kp_gdT (kp_in (show s ||| 2 ^ k < 256 by omega) (by omega)), nI_clamp (show s ||| 2 ^ k < 2 ^ 31 by omega), ht _ hgt hlt, hcan, if_pos rfl]
      · show f_X5_orders_B58 (nI r) τ (nI s) _ _ (nI (P r)) = _
        unfold f_X5_orders_B58
        rw [kp_gdT (kp_in (show r < 4 by omega) (by omega)), hcr, e25, if_pos (nI_le (Nat.le_refl _) (by omega))]
  rw [hl, kp_bd]
  unfold f_X5_orders_A58 f_X5_orders_L154
  rw [kp_gdT (kp_in (show s < 256 by omega) (by omega)), nI_clamp (show s < 2 ^ 31 by omega), hsub]
theorem m_orders (g : good0 τ R G B P) {r : Nat} (hr : r < R) {W : Nat → Int32} (hW : W = Wn (wk τ r) (rnd τ r) (rgv τ r) (τ 24 0 0 r) (P r)) : f_X5_orders τ (nI r) = some (W 0, ordT W (2 ^ P r) (kh_up τ 15 0 0 0 0) (2 ^ P r)) := by
  have h4 := g.R4
  have hp := (g.r r hr).2.1
  have h256 := pow_p (P r) hp
  have hpos : 0 < 2 ^ P r := Nat.pow_pos (by omega)
  have hcr : (nI r).toNatClampNeg = r := nI_clamp (by omega)
  have he := eqv_thr τ 0
  have g1 := eqv_good0 he g
  have hW1 : W = Wn (wk (kh_up τ 15 0 0 0 0) r) (rnd (kh_up τ 15 0 0 0 0) r) (rgv (kh_up τ 15 0 0 0 0) r) (kh_up τ 15 0 0 0 0 24 0 0 r) (P r) := by
    obtain ⟨w, w1, w2, -⟩ := eqv_w he r
    rw [w, w1, w2, he.1 24 (by omega) (by omega)]
    exact hW
  unfold f_X5_orders f_X5_orders_L14
  rw [m_isRoom g, if_neg (no_ix hr (by omega)), kp_bd, if_neg one_ne, m_ref0, kp_bd2, if_pos rfl, kp_gdT (kp_in (show r < 4 by omega) (by omega)), hcr]
  generalize kh_up τ 15 0 0 0 0 = τ0 at g1 hW1
  rw [(g1.r r hr).1, shl_p _ hp]
  have hl : kh_lp (fun a : kh_S × Int32 => f_X5_orders_B33 (nI r) a.1 a.2) 9999 (τ0, nI (2 ^ P r) - 1) = some (ordT W (2 ^ P r) τ0 (2 ^ P r)) := by
    refine kp_lp (2 ^ P r) (fun j => (ordT W (2 ^ P r) τ0 j, nI (2 ^ P r - j) - 1)) (fun j hj => ?_) ?_ 9999 (by omega)
    · show f_X5_orders_B33 (nI r) (ordT W (2 ^ P r) τ0 j) (nI (2 ^ P r - j) - 1) = some (.inl (kh_up (ordT W (2 ^ P r) τ0 j) 52 0 0 (2 ^ P r - j - 1) (W (2 ^ P r - j - 1)), nI (2 ^ P r - (j + 1)) - 1))
      have hj1 : nI (2 ^ P r - j) - 1 = nI (2 ^ P r - j - 1) := by
        have := nI_pred (2 ^ P r - j - 1)
        rw [show 2 ^ P r - j - 1 + 1 = 2 ^ P r - j by omega] at this
        exact this
      have hx : eqv τ0 (ordT W (2 ^ P r) τ0 j) := eqv_ordT ⟨fun _ _ _ => rfl, fun _ _ _ _ => rfl⟩ W _ j
      obtain ⟨w, w1, w2, -⟩ := eqv_w hx r
      rw [hj1, m_set (eqv_good0 hx g1) hr (show 2 ^ P r - j - 1 < 2 ^ P r by omega) W (by rw [w, w1, w2, hx.1 24 (by omega) (by omega)]; exact hW1) (fun t h1 h2 => ordT_at W _ τ0 j (by omega) t (by omega) h2), show 2 ^ P r - (j + 1) = 2 ^ P r - j - 1 by omega]
    · show f_X5_orders_B33 (nI r) _ (nI (2 ^ P r - 2 ^ P r) - 1) = _
      unfold f_X5_orders_B33
      rw [Nat.sub_self, if_pos (by decide)]
  rw [hl, kp_bd]
  unfold f_X5_orders_A33 f_X5_orders_L168
  rw [kp_gdT (show kh_in (0 : Int32) 256 = true from by decide), show (0 : Int32).toNatClampNeg = 0 from rfl, ordT_at W _ τ0 _ (Nat.le_refl _) 0 (by omega) hpos]
theorem q_ord (gg : good σ R G B P) (FL FM : kh_S → Option (Int32 × kh_S)) (a1 : Int32) (hFM : ∀ τ, FM τ = f_X5_orders τ a1)
    (hC0 : ∀ ρ, relC ρ σ R G B P → (a1 < 0 ∨ nI R ≤ a1) → FL ρ = some (1, ρ))
    (hC1 : ∀ ρ σ' r, good0 σ' R G B P → relC ρ σ' R G B P → r < R → a1 = nI r → ∃ ρ', FL ρ = some (0, kh_up ρ' 60 0 0 (0 : Int32).toNatClampNeg (Wn (wk σ' r) (rnd σ' r) (rgv σ' r) (σ' 24 0 0 r) (P r) 0)) ∧ ∀ k, k ≠ 5 → ρ' k = ρ k) : stepOK FL FM σ R G B P := by
  have g := gg.1
  have h4 := g.R4
  rcases ix_cases a1 R (by omega) with h | ⟨r, hr, rfl⟩
  · refine stepE gg 1 0 (by decide) (fun ρ q => hC0 ρ q h) (fun τ gt _ => ?_)
    rw [hFM]
    unfold f_X5_orders f_X5_orders_L14
    rw [m_isRoom gt, if_pos h, kp_bd, if_pos rfl, m_ref1, kp_bd2, if_neg one_ne]
  · have he1 := eqv_thr σ 0
    have g1 := eqv_good he1 gg
    generalize hs : kh_up σ 15 0 0 0 0 = σ1 at g1 he1
    have t1 : σ1 15 0 0 0 = 0 := by rw [← hs]; exact up_at _ _ _ _ _ _
    have hx : eqv σ1 (ordT (Wn (wk σ1 r) (rnd σ1 r) (rgv σ1 r) (σ1 24 0 0 r) (P r)) (2 ^ P r) σ1 (2 ^ P r)) := eqv_ordT ⟨fun _ _ _ => rfl, fun _ _ _ _ => rfl⟩ _ _ _
    refine stepG gg (eqv_good hx g1) (by rw [ordT_ne _ _ _ (by omega)]; exact t1) (Wn (wk σ1 r) (rnd σ1 r) (rgv σ1 r) (σ1 24 0 0 r) (P r) 0) (fun ρ q => ?_) (fun τ gt e => ?_)
    · rw [hs] at q
      obtain ⟨ρ', k1, k2⟩ := hC1 ρ σ1 r g1.1 q hr rfl
      exact ⟨ρ', k1, eqv_relC hx (relC_5 k2 q), fun k h1 h2 => k2 k (by omega)⟩
    · have e1 : kM (kh_up τ 15 0 0 0 0) σ1 := by rw [← hs]; exact kM_up e 15 0 0 0 rfl
      have hW : Wn (wk σ1 r) (rnd σ1 r) (rgv σ1 r) (σ1 24 0 0 r) (P r) = Wn (wk τ r) (rnd τ r) (rgv τ r) (τ 24 0 0 r) (P r) := by
        have h9 := eqv_M e
        obtain ⟨w, w1, w2, -⟩ := eqv_w h9 r
        obtain ⟨v, v1, v2, -⟩ := eqv_w he1 r
        rw [w, w1, w2, h9.1 24 (by omega) (by omega), v, v1, v2, he1.1 24 (by omega) (by omega)]
      refine ⟨_, ?_, kM_ordT e1 _ _ _, frM_ordT (frM_up (frM_rfl τ) (by omega)) _ _ _⟩
      rw [hFM]
      exact m_orders gt hr hW
theorem q_orders (gg : good σ R G B P) (a1 : Int32) : stepOK (fun ρ => f_L_orders ρ a1) (fun τ => f_X5_orders τ a1) σ R G B P := by
  refine q_ord gg _ _ a1 (fun _ => rfl) (fun ρ q h => ?_) (fun ρ σ' r g' q hr e => ?_)
  · show f_L_orders ρ a1 = _
    unfold f_L_orders f_X4_orders
    rw [c_rn0 q h, kp_bxl, kx_l, if_pos rfl]
    rfl
  · subst e
    obtain ⟨ρ', k1, k2⟩ := c_sets q g' hr
    refine ⟨ρ', ?_, k2⟩
    show f_L_orders ρ (nI r) = _
    unfold f_L_orders f_X4_orders
    rw [c_rn1 q g' hr, kp_bxr, k1, kp_bd2, kx_r]
theorem q_ordersAnew (gg : good σ R G B P) (a1 : Int32) : stepOK (fun ρ => f_L_ordersAnew ρ a1) (fun τ => f_X5_ordersAnew τ a1) σ R G B P := by
  refine q_ord gg _ _ a1 (fun τ => ?_) (fun ρ q h => ?_) (fun ρ σ' r g' q hr e => ?_)
  · show f_X5_ordersAnew τ a1 = _
    unfold f_X5_ordersAnew
    cases f_X5_orders τ a1 with
    | none => rfl
    | some y => rfl
  · show f_L_ordersAnew ρ a1 = _
    unfold f_L_ordersAnew f_X4_ordersAnew
    rw [c_rn0 q h, kp_bxl, kpt_l, kx_l, if_pos rfl]
    rfl
  · subst e
    refine ⟨ρ, ?_, fun _ _ => rfl⟩
    show f_L_ordersAnew ρ (nI r) = _
    unfold f_L_ordersAnew
    rw [c_ordersAnew q g' hr, kpt_r, kx_r]
end ORD
