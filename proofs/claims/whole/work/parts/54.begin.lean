/-! resets: which puzzle is next; a crew member begins with the next thing -/
theorem nrf_ex {p q : Nat → Bool} {a0 : Int32} : ∀ {n : Nat}, anyb p n = true → (∃ k, k < n ∧ p k = true ∧ (nrf p q a0 n).1 = nI k) ∧ ((nrf p q a0 n).2 = -1 ∨ ∃ k, k < n ∧ p k = true ∧ (nrf p q a0 n).2 = nI k)
  | 0, h => by cases h
  | n + 1, h => by
    show (∃ k, k < n + 1 ∧ p k = true ∧ (if p n = true then (nI n, if q n = true then (nrf p q a0 n).2 else nI n) else nrf p q a0 n).1 = nI k) ∧ ((if p n = true then (nI n, if q n = true then (nrf p q a0 n).2 else nI n) else nrf p q a0 n).2 = -1 ∨ ∃ k, k < n + 1 ∧ p k = true ∧ (if p n = true then (nI n, if q n = true then (nrf p q a0 n).2 else nI n) else nrf p q a0 n).2 = nI k)
    cases e : p n with
    | true =>
      rw [if_pos rfl]
      refine ⟨⟨n, by omega, e, rfl⟩, ?_⟩
      cases e2 : q n with
      | true =>
        rw [if_pos rfl]
        cases e3 : anyb p n with
        | true =>
          rcases (nrf_ex (q := q) (a0 := a0) e3).2 with h2 | ⟨k, hk, h2, h3⟩
          · exact Or.inl h2
          · exact Or.inr ⟨k, by omega, h2, h3⟩
        | false =>
          refine Or.inl ?_
          have : ∀ m, m ≤ n → nrf p q a0 m = (a0, -1) := by
            intro m
            induction m with
            | zero => intro _; rfl
            | succ m ih =>
              intro hm
              show (if p m = true then _ else nrf p q a0 m) = _
              rw [anyb_no e3 (show m < n by omega), if_neg (by decide)]
              exact ih (by omega)
          show (nrf p q a0 n).2 = -1
          rw [this n (Nat.le_refl _)]
      | false => exact Or.inr ⟨n, by omega, e, rfl⟩
    | false =>
      rw [if_neg (by decide)]
      have h' : anyb p n = true := by
        have h : (anyb p n || p n) = true := h
        rw [e, Bool.or_false] at h
        exact h
      obtain ⟨⟨k, h1, h2, h3⟩, h4⟩ := nrf_ex (q := q) (a0 := a0) h'
      refine ⟨⟨k, by omega, h2, h3⟩, ?_⟩
      rcases h4 with h4 | ⟨k, hk, h4, h5⟩
      · exact Or.inl h4
      · exact Or.inr ⟨k, by omega, h4, h5⟩
theorem nrf_none {p q : Nat → Bool} {a0 : Int32} {n : Nat} (h : anyb p n = false) : ∀ m, m ≤ n → nrf p q a0 m = (a0, -1)
  | 0, _ => rfl
  | m + 1, hm => by
    show (if p m = true then _ else nrf p q a0 m) = _
    rw [anyb_no h (show m < n by omega), if_neg (by decide)]
    exact nrf_none h m (by omega)
theorem nrf_a0 {p q : Nat → Bool} {a0 a1 : Int32} : ∀ {n : Nat}, anyb p n = true → nrf p q a0 n = nrf p q a1 n
  | 0, h => by cases h
  | n + 1, h => by
    show (if p n = true then (nI n, if q n = true then (nrf p q a0 n).2 else nI n) else nrf p q a0 n) = (if p n = true then (nI n, if q n = true then (nrf p q a1 n).2 else nI n) else nrf p q a1 n)
    cases e : anyb p n with
    | true => rw [nrf_a0 (a1 := a1) e]
    | false =>
      have h : (anyb p n || p n) = true := h
      rw [e, Bool.false_or] at h
      rw [nrf_none e n (Nat.le_refl _), nrf_none e n (Nat.le_refl _), if_pos h, if_pos h]
theorem nrx_ex {p q : Nat → Bool} {a0 : Int32} {n : Nat} (h : anyb p n = true) : ∃ k, k < n ∧ p k = true ∧ nrx (nrf p q a0 n) = nI k := by
  obtain ⟨⟨k, h1, h2, h3⟩, h4⟩ := nrf_ex (q := q) (a0 := a0) h
  unfold nrx
  by_cases e : (nrf p q a0 n).2 = -1
  · rw [if_pos e]; exact ⟨k, h1, h2, h3⟩
  · rw [if_neg e]; exact h4.resolve_left e
/-- which puzzle is reset next; NONE if there is none -/
def nxt (P : Nat → Nat) (σ : kh_S) (r : Nat) : Int32 := nrx (nrf (bt (σ 27 0 0 r)) (nedb (rnd σ r) (rgv σ r) (σ 27 0 0 r) (σ 24 0 0 r) (P r)) (-1) (P r))
theorem any_tr {x : Int32} {p : Nat} (hp : p ≤ 8) (h : inP x p) : anyb (bt x) p = false ↔ x = 0 := by
  constructor
  · intro e
    refine b_eq0.mpr fun i hi => ?_
    cases e2 : bt x i with
    | false => rfl
    | true =>
      have := anyb_no e (h i hi e2)
      rw [e2] at this
      cases this
  · intro e
    subst e
    cases e2 : anyb (bt 0) p with
    | false => rfl
    | true =>
      obtain ⟨k, hk, e3⟩ := anyb_iff.mp e2
      rw [b_0] at e3
      cases e3
section NEXT
variable {ρ σ τ : kh_S} {R G B : Nat} {P : Nat → Nat}
theorem m_next (τ : kh_S) {r : Nat} (hr : r < 4) (e25 : τ 25 0 0 r = nI (P r)) (h8 : P r ≤ 8) : f_X5_nextToReset τ (nI r) = some (nxt P τ r) := by
  have hcr : (nI r).toNatClampNeg = r := nI_clamp (by omega)
  have hin : ∀ (k : Nat), k < P r → ∀ x3 : Int32, kh_lp (fun a : Int32 × Int32 => f_X5_nextToReset_B65 τ (nI r) (nI k) x3 (nI k) (giv (rgv τ r k) (τ 24 0 0 r)) a.1 a.2) 9999 ((1 : Int32), (0 : Int32)) = some (if nedb (rnd τ r) (rgv τ r) (τ 27 0 0 r) (τ 24 0 0 r) (P r) k = true then (0 : Int32) else 1) := by
    intro k hk x3
    unfold nedb
    generalize giv (rgv τ r k) (τ 24 0 0 r) = gvn
    refine kp_lp (P r) (fun j => (if anyb (nedc (rnd τ r) (τ 27 0 0 r) gvn k) j = true then (0 : Int32) else 1, nI j)) (fun j hj => ?_) ?_ 9999 (by omega)
    · show f_X5_nextToReset_B65 τ (nI r) (nI k) x3 (nI k) gvn (if anyb (nedc (rnd τ r) (τ 27 0 0 r) gvn k) j = true then (0 : Int32) else 1) (nI j) = some (.inl (if (anyb (nedc (rnd τ r) (τ 27 0 0 r) gvn k) j || nedc (rnd τ r) (τ 27 0 0 r) gvn k j) = true then (0 : Int32) else 1, nI (j + 1)))
      unfold f_X5_nextToReset_B65 f_X5_nextToReset_L124 f_X5_nextToReset_L120 f_X5_nextToReset_L125
      rw [kp_gdT (kp_in (show r < 4 by omega) (by omega)), hcr, e25, if_neg (nI_ge hj (by omega)), at8, kp_gdT (kp_in (show 8 * r + j < 32 by omega) (by omega)), nI_clamp (show 8 * r + j < 2 ^ 31 by omega), nI_1]
      cases e : anyb (nedc (rnd τ r) (τ 27 0 0 r) gvn k) j with
      | true => rfl
      | false =>
        rw [if_neg (by decide : ¬ (if false = true then (0 : Int32) else 1) = 0), Bool.false_or]
        unfold nedc
        by_cases e1 : j = k
        · subst e1; rw [if_pos rfl]; simp
        · rw [if_neg (fun h => e1 ((nI_eq (by omega) (by omega)).mp h)), decide_eq_true e1, Bool.true_and]
          cases e2 : bt (τ 27 0 0 r) j with
          | false => rw [if_pos ((kp_shrF j (by omega) _).mpr e2)]; rfl
          | true =>
            rw [if_neg (fun h => by rw [(kp_shrF j (by omega) _).mp h] at e2; cases e2), Bool.true_and]
            by_cases e3 : (rnd τ r j &&& gvn) = 0
            · rw [if_pos (show (τ 30 0 0 (8 * r + j) &&& gvn) = 0 from e3), decide_eq_false (fun z => z e3)]; rfl
            · rw [if_neg (show ¬ (τ 30 0 0 (8 * r + j) &&& gvn) = 0 from e3), decide_eq_true e3]; rfl
    · show f_X5_nextToReset_B65 τ (nI r) (nI k) x3 (nI k) gvn _ (nI (P r)) = _
      unfold f_X5_nextToReset_B65
      rw [kp_gdT (kp_in (show r < 4 by omega) (by omega)), hcr, e25, if_pos (nI_le (Nat.le_refl _) (by omega))]
  have hl : kh_lp (fun a : Int32 × Int32 × Int32 => f_X5_nextToReset_B7 τ (nI r) a.1 a.2.1 a.2.2) 9999 ((-1 : Int32), (-1 : Int32), (0 : Int32)) = some (nrf (bt (τ 27 0 0 r)) (nedb (rnd τ r) (rgv τ r) (τ 27 0 0 r) (τ 24 0 0 r) (P r)) (-1) (P r)) := by
    generalize hned : nedb (rnd τ r) (rgv τ r) (τ 27 0 0 r) (τ 24 0 0 r) (P r) = ned at hin
    refine kp_lp (P r) (fun k => ((nrf (bt (τ 27 0 0 r)) ned (-1) k).1, (nrf (bt (τ 27 0 0 r)) ned (-1) k).2, nI k)) (fun k hk => ?_) ?_ 9999 (by omega)
    · show f_X5_nextToReset_B7 τ (nI r) (nrf (bt (τ 27 0 0 r)) ned (-1) k).1 (nrf (bt (τ 27 0 0 r)) ned (-1) k).2 (nI k) = some (.inl ((if bt (τ 27 0 0 r) k = true then (nI k, if ned k = true then (nrf (bt (τ 27 0 0 r)) ned (-1) k).2 else nI k) else nrf (bt (τ 27 0 0 r)) ned (-1) k).1, (if bt (τ 27 0 0 r) k = true then (nI k, if ned k = true then (nrf (bt (τ 27 0 0 r)) ned (-1) k).2 else nI k) else nrf (bt (τ 27 0 0 r)) ned (-1) k).2, nI (k + 1)))
      unfold f_X5_nextToReset_B7 f_X5_nextToReset_L145
      rw [kp_gdT (kp_in (show r < 4 by omega) (by omega)), hcr, e25, if_neg (nI_ge hk (by omega)), at8, kp_gdT (kp_in (show 8 * r + k < 32 by omega) (by omega)), nI_clamp (show 8 * r + k < 2 ^ 31 by omega)]
      cases e : bt (τ 27 0 0 r) k with
      | false =>
        rw [if_neg (fun h => by rw [(kp_shr k (by omega) _).mp h] at e; cases e), nI_1]
        rfl
      | true =>
        rw [if_pos ((kp_shr k (by omega) _).mpr e)]
        have h2 := hin k hk (nrf (bt (τ 27 0 0 r)) ned (-1) k).2
        show kh_bd (kh_lp (fun a : Int32 × Int32 => f_X5_nextToReset_B65 τ (nI r) (nI k) (nrf (bt (τ 27 0 0 r)) ned (-1) k).2 (nI k) (giv (rgv τ r k) (τ 24 0 0 r)) a.1 a.2) 9999 ((1 : Int32), (0 : Int32))) _ = _
        rw [h2, kp_bd]
        unfold f_X5_nextToReset_A65 f_X5_nextToReset_L133 f_X5_nextToReset_L144 f_X5_nextToReset_L145
        rw [nI_1]
        cases e2 : ned k with
        | true => rfl
        | false => rfl
    · show f_X5_nextToReset_B7 τ (nI r) _ _ (nI (P r)) = _
      unfold f_X5_nextToReset_B7
      rw [kp_gdT (kp_in (show r < 4 by omega) (by omega)), hcr, e25, if_pos (nI_le (Nat.le_refl _) (by omega))]
  unfold f_X5_nextToReset
  rw [hl, kp_bd]
  unfold f_X5_nextToReset_A7 f_X5_nextToReset_L151 f_X5_nextToReset_L161 nxt nrx
  split <;> rfl
theorem nxt_none {r : Nat} (h8 : P r ≤ 8) (hi : inP (σ 27 0 0 r) (P r)) : (σ 27 0 0 r = 0 → nxt P σ r = -1) ∧ (σ 27 0 0 r ≠ 0 → ∃ k, k < P r ∧ nxt P σ r = nI k) := by
  refine ⟨fun h => ?_, fun h => ?_⟩
  · have e := (any_tr h8 hi).mpr h
    unfold nxt
    rw [nrf_none e (P r) (Nat.le_refl _)]
    rfl
  · have e : anyb (bt (σ 27 0 0 r)) (P r) = true := by
      cases e : anyb (bt (σ 27 0 0 r)) (P r) with
      | true => rfl
      | false => exact absurd ((any_tr h8 hi).mp e) h
    obtain ⟨k, h1, -, h2⟩ := nrx_ex (q := nedb (rnd σ r) (rgv σ r) (σ 27 0 0 r) (σ 24 0 0 r) (P r)) (a0 := -1) e
    exact ⟨k, h1, h2⟩
/-! a crew member begins: what holds ahead of it -/
def good0i (σ : kh_S) (R G B : Nat) (P : Nat → Nat) (i r : Nat) : Prop := gS σ R G B ∧ (∀ r, r < R → gR σ P r) ∧ gN σ R P ∧ (∀ r, r < R → gP σ G r) ∧ (∀ g, g < G → gG σ R P g) ∧ gH σ G ∧ ((∀ j, j < 3 → j ≠ i → gW σ R P j) ∧ (σ 46 0 0 i = 0 ∨ σ 46 0 0 i = 1) ∧ σ 43 0 0 i = nI r ∧ σ 26 0 0 r = 3) ∧ gD σ ∧ ∀ b, b < B → gB σ R b
def relCi (ρ σ : kh_S) (R G B : Nat) (P : Nat → Nat) (i r : Nat) : Prop := cS ρ σ R G B ∧ cA ρ R G B ∧ (∀ r, r < R → cR ρ σ P r) ∧ (∀ g, g < G → cG ρ σ g) ∧ ((∀ j, j < 3 → j ≠ i → cW ρ σ j) ∧ ρ 6 11 r 0 = σ 46 0 0 i) ∧ ∀ b, b < B → cB ρ σ b
def bg0 (σ : kh_S) (i r : Nat) : kh_S := if σ 27 0 0 r = 0 ∧ σ 46 0 0 i ≠ 0 ∧ σ 28 0 0 r ≠ 0 then kh_up (kh_up σ 27 0 0 r (σ 28 0 0 r)) 28 0 0 r 0 else σ
def dne (σ : kh_S) (i r : Nat) : kh_S := kh_up (kh_up (kh_up σ 26 0 0 r 0) 43 0 0 i (-1)) 44 0 0 i (-1)
def bg1 (P : Nat → Nat) (σ : kh_S) (i r : Nat) : kh_S := if σ 27 0 0 r ≠ 0 then kh_up (kh_up σ 44 0 0 i (nxt P σ r)) 45 0 0 i (σ 33 0 0 (8 * r + (nxt P σ r).toNatClampNeg)) else if σ 46 0 0 i ≠ 0 then kh_up (kh_up σ 44 0 0 i (-1)) 45 0 0 i 5 else dne (kh_up σ 44 0 0 i (-1)) i r
def bg (P : Nat → Nat) (σ : kh_S) (i r : Nat) : kh_S := bg1 P (bg0 σ i r) i r
theorem m_done (τ : kh_S) {i r : Nat} (hi : i < 3) (hr : r < 4) (e : τ 43 0 0 i = nI r) : f_X5_isDone τ (nI i) = some (dne τ i r) := by
  unfold f_X5_isDone
  rw [nI_clamp (show i < 2 ^ 31 by omega), e, nI_clamp (show r < 2 ^ 31 by omega), kp_gdT (kp_in hi (by omega)), kp_gdT (kp_in hr (by omega))]
  rfl
theorem m_bg1 (τ : kh_S) {i r : Nat} (hi : i < 3) (hr : r < 4) (e : τ 43 0 0 i = nI r) (h8 : P r ≤ 8) (ht : inP (τ 27 0 0 r) (P r)) : f_X5_begins_L61 τ (nI i) (nI r) (nxt P τ r) = some (bg1 P τ i r) := by
  have hci : (nI i).toNatClampNeg = i := nI_clamp (by omega)
  obtain ⟨n1, n2⟩ := nxt_none (σ := τ) h8 ht
  unfold f_X5_begins_L61 bg1 f_X5_begins_L117
  rw [kp_gdT (kp_in hi (by omega)), hci]
  by_cases h : τ 27 0 0 r = 0
  · rw [n1 h, if_pos rfl, if_neg (show ¬ (τ 27 0 0 r ≠ 0) from fun z => z h), rd_ne (show 46 ≠ 44 by decide), m_done _ hi hr (by rw [rd_ne (by decide)]; exact e), kp_bd]
    by_cases h2 : τ 46 0 0 i = 0
    · rw [if_pos h2, if_neg (fun z => z h2)]
    · rw [if_neg h2, if_pos h2]
  · obtain ⟨k, hk, e2⟩ := n2 h
    rw [e2, if_neg (nI_m1 (by omega)), if_pos h, at8, kp_gdT (kp_in (show 8 * r + k < 32 by omega) (by omega)), nI_clamp (show 8 * r + k < 2 ^ 31 by omega), nI_clamp (show k < 2 ^ 31 by omega), rd_ne (by decide)]
theorem m_bg (τ : kh_S) {i r : Nat} (hi : i < 3) (hr : r < 4) (e : τ 43 0 0 i = nI r) (e25 : τ 25 0 0 r = nI (P r)) (h8 : P r ≤ 8) (ht : inP (τ 27 0 0 r) (P r)) (hf : inP (τ 28 0 0 r) (P r)) : f_X5_begins τ (nI i) = some (bg P τ i r) := by
  have hci : (nI i).toNatClampNeg = i := nI_clamp (by omega)
  have hcr : (nI r).toNatClampNeg = r := nI_clamp (by omega)
  obtain ⟨n1, n2⟩ := nxt_none (σ := τ) h8 ht
  unfold f_X5_begins bg
  rw [kp_gdT (kp_in hi (by omega)), hci, e, m_next τ hr e25 h8, kp_bd, hcr, kp_gdT (kp_in hr (by omega))]
  by_cases h : τ 27 0 0 r = 0
  · by_cases h2 : τ 46 0 0 i = 0
    · have h0 : bg0 τ i r = τ := if_neg (fun z => z.2.1 h2)
      rw [h0, if_pos (n1 h), if_pos h2]
      exact m_bg1 τ hi hr e h8 ht
    · by_cases h3 : τ 28 0 0 r = 0
      · have h0 : bg0 τ i r = τ := if_neg (fun z => z.2.2 h3)
        rw [h0, if_pos (n1 h), if_neg h2, if_pos h3]
        exact m_bg1 τ hi hr e h8 ht
      · have h0 : bg0 τ i r = kh_up (kh_up τ 27 0 0 r (τ 28 0 0 r)) 28 0 0 r 0 := if_pos ⟨h, h2, h3⟩
        rw [h0, if_pos (n1 h), if_neg h2, if_neg h3, m_next _ hr (by rw [rd_ne (by decide), rd_ne (by decide)]; exact e25) h8, kp_bd]
        refine m_bg1 _ hi hr (by rw [rd_ne (by decide), rd_ne (by decide)]; exact e) h8 ?_
        rw [rd_ne (by decide), up_at]
        exact hf
  · have h0 : bg0 τ i r = τ := if_neg (fun z => h z.1)
    obtain ⟨k, hk, e2⟩ := n2 h
    rw [h0, if_neg (by rw [e2]; exact nI_m1 (by omega))]
    exact m_bg1 τ hi hr e h8 ht
theorem nxt_M (h : kM τ σ) (r : Nat) : nxt P τ r = nxt P σ r := by
  obtain ⟨w, w1, w2, w3⟩ := eqv_w (eqv_M h) r
  unfold nxt
  rw [h 27 (by omega) (by omega), h 24 (by omega) (by omega), w1, w2]
theorem kM_bg0 (h : kM τ σ) (i r : Nat) : kM (bg0 τ i r) (bg0 σ i r) := by
  unfold bg0
  rw [h 27 (by omega) (by omega), h 46 (by omega) (by omega), h 28 (by omega) (by omega)]
  split
  · exact kM_up (kM_up h 27 0 0 r rfl) 28 0 0 r rfl
  · exact h
theorem kM_dne (h : kM τ σ) (i r : Nat) : kM (dne τ i r) (dne σ i r) := kM_up (kM_up (kM_up h 26 0 0 r rfl) 43 0 0 i rfl) 44 0 0 i rfl
theorem kM_bg1 (h : kM τ σ) (i r : Nat) : kM (bg1 P τ i r) (bg1 P σ i r) := by
  unfold bg1
  rw [h 27 (by omega) (by omega), h 46 (by omega) (by omega), h 33 (by omega) (by omega), nxt_M h]
  split
  · exact kM_up (kM_up h 44 0 0 i rfl) 45 0 0 i rfl
  · split
    · exact kM_up (kM_up h 44 0 0 i rfl) 45 0 0 i rfl
    · exact kM_dne (kM_up h 44 0 0 i rfl) i r
theorem kM_bg (h : kM τ σ) (i r : Nat) : kM (bg P τ i r) (bg P σ i r) := kM_bg1 (kM_bg0 h i r) i r
theorem frM_dne {a b : kh_S} (h : frM a b) (i r : Nat) : frM a (dne b i r) := frM_up (frM_up (frM_up h (by omega)) (by omega)) (by omega)
theorem frM_bg {a b : kh_S} (h : frM a b) (i r : Nat) : frM a (bg P b i r) := by
  have h0 : frM a (bg0 b i r) := by
    unfold bg0
    split
    · exact frM_up (frM_up h (by omega)) (by omega)
    · exact h
  unfold bg bg1
  split
  · exact frM_up (frM_up h0 (by omega)) (by omega)
  · split
    · exact frM_up (frM_up h0 (by omega)) (by omega)
    · exact frM_dne (frM_up h0 (by omega)) i r
theorem bg_ne (σ : kh_S) (i r : Nat) {k : Nat} (h : k ≠ 26 ∧ k ≠ 27 ∧ k ≠ 28 ∧ k ≠ 43 ∧ k ≠ 44 ∧ k ≠ 45) : bg P σ i r k = σ k := by
  have h0 : bg0 σ i r k = σ k := by
    unfold bg0
    split
    · rw [up_k (by omega), up_k (by omega)]
    · rfl
  unfold bg bg1 dne
  split
  · rw [up_k (by omega), up_k (by omega), h0]
  · split
    · rw [up_k (by omega), up_k (by omega), h0]
    · rw [up_k (by omega), up_k (by omega), up_k (by omega), up_k (by omega), h0]
theorem good0i_bg0 {i r : Nat} (g : good0i σ R G B P i r) (hr : r < R) : good0i (bg0 σ i r) R G B P i r := by
  unfold bg0
  split
  · rename_i hc
    obtain ⟨g1, g2, g3, g4, g5, g6, ⟨g7, g8, g9, g10⟩, g11, g12⟩ := g
    refine ⟨?_, fun r' hr' => ?_, fun r' h1 h2 => ?_, fun r' hr' => ?_, fun g' hg' => ?_, ?_, ⟨fun j hj hji => ?_, ?_, ?_, ?_⟩, ?_, fun b hb => ?_⟩
    · simpa [gS, up_rd] using g1
    · obtain ⟨c1, c2, c3, c4, c5⟩ := g2 r' hr'
      refine ⟨?_, c2, ?_, ?_, ?_⟩
      · simpa [up_rd] using c1
      · simpa [rpr_up, rtk_up] using c3
      · by_cases e : r' = r
        · subst e; simpa [up_rd] using c5
        · simpa [up_rd, e] using c4
      · by_cases e : r' = r
        · subst e
          have z : (kh_up (kh_up σ 27 0 0 r' (σ 28 0 0 r')) 28 0 0 r' 0) 28 0 0 r' = 0 := up_at _ _ _ _ _ _
          rw [z]; exact inP_0 _
        · simpa [up_rd, e] using c5
    · have e : ¬ r' = r := by omega
      simpa [up_rd, e] using g3 r' h1 h2
    · simpa [gP, up_rd] using g4 r' hr'
    · simpa [gG, up_rd] using g5 g' hg'
    · simpa [gH, up_rd] using g6
    · simpa [gW, up_rd] using g7 j hj hji
    · simpa [up_rd] using g8
    · simpa [up_rd] using g9
    · simpa [up_rd] using g10
    · simpa [gD, up_rd] using g11
    · simpa [gB, up_rd] using g12 b hb
  · exact g
/-- a crew member begins with something -/
theorem good0_bgn {i r : Nat} (g : good0i σ R G B P i r) (hi : i < 3) (hr : r < R) {p m : Int32} (hp : p = -1 ∨ ∃ k, k < P r ∧ p = nI k) (hm : ∃ n, 1 ≤ n ∧ n ≤ 10 ∧ m = nI n) : good0 (kh_up (kh_up σ 44 0 0 i p) 45 0 0 i m) R G B P := by
  obtain ⟨g1, g2, g3, g4, g5, g6, ⟨g7, g8, g9, g10⟩, g11, g12⟩ := g
  refine ⟨?_, fun r' hr' => ?_, fun r' h1 h2 => ?_, fun r' hr' => ?_, fun g' hg' => ?_, ?_, fun j hj => ?_, ?_, fun b hb => ?_⟩
  · simpa [gS, up_rd] using g1
  · simpa [gR, up_rd, rpr_up, rtk_up] using g2 r' hr'
  · simpa [up_rd] using g3 r' h1 h2
  · simpa [gP, up_rd] using g4 r' hr'
  · simpa [gG, up_rd] using g5 g' hg'
  · simpa [gH, up_rd] using g6
  · by_cases e : j = i
    · subst e
      refine ⟨by simpa [up_rd] using g8, Or.inr ⟨r, hr, ?_, ?_, ?_, ?_⟩⟩
      · simpa [up_rd] using g9
      · simpa [up_rd] using g10
      · simpa [up_rd] using hm
      · simpa [up_rd] using hp
    · simpa [gW, up_rd, e] using g7 j hj e
  · simpa [gD, up_rd] using g11
  · simpa [gB, up_rd] using g12 b hb
/-- a room is READY again -/
theorem good0_dne {i r : Nat} (g : good0i σ R G B P i r) (hR : R ≤ 4) (hi : i < 3) (hr : r < R) : good0 (dne σ i r) R G B P := by
  obtain ⟨g1, g2, g3, g4, g5, g6, ⟨g7, g8, g9, g10⟩, g11, g12⟩ := g
  refine ⟨?_, fun r' hr' => ?_, fun r' h1 h2 => ?_, fun r' hr' => ?_, fun g' hg' => ?_, ?_, fun j hj => ?_, ?_, fun b hb => ?_⟩
  · simpa [gS, dne, up_rd] using g1
  · simpa [gR, dne, up_rd, rpr_up, rtk_up] using g2 r' hr'
  · have e : ¬ r' = r := by omega
    simpa [dne, up_rd, e] using g3 r' h1 h2
  · by_cases e : r' = r
    · subst e
      rcases g4 r' hr' with ⟨a, -⟩ | ⟨-, a⟩
      · rw [g10] at a
        exact absurd a (by decide)
      · refine Or.inr ⟨?_, ?_⟩
        · simp [dne, up_rd]
        · simpa [dne, up_rd] using a
    · simpa [gP, dne, up_rd, e] using g4 r' hr'
  · obtain ⟨r', hr', a1, a2, a3⟩ := g5 g' hg'
    refine ⟨r', hr', ?_, ?_, fun h => ?_⟩
    · simpa [dne, up_rd] using a1
    · simpa [dne, up_rd] using a2
    · have h' : σ 35 0 0 g' = 0 := by simpa [dne, up_rd] using h
      obtain ⟨b1, b2⟩ := a3 h'
      have e2 : ¬ r' = r := by
        intro e2; subst e2
        rw [g10] at b1
        exact absurd b1 (by decide)
      refine ⟨?_, ?_⟩
      · simpa [dne, up_rd, e2] using b1
      · simpa [dne, up_rd] using b2
  · simpa [gH, dne, up_rd] using g6
  · by_cases e : j = i
    · subst e
      refine ⟨by simpa [dne, up_rd] using g8, Or.inl ⟨?_, ?_⟩⟩
      · simp [dne, up_rd]
      · simp [dne, up_rd]
    · obtain ⟨a0, a⟩ := g7 j hj e
      refine ⟨by simpa [dne, up_rd] using a0, ?_⟩
      rcases a with a | ⟨r', hr', b1, b2, b3, b4⟩
      · refine Or.inl ?_
        simpa [dne, up_rd, e] using a
      · have e2 : ¬ r' = r := by
          intro e2; subst e2
          exact g11 i j r' hi hj (by omega) (fun z => e z.symm) g9 b1
        refine Or.inr ⟨r', hr', ?_, ?_, ?_, ?_⟩
        · simpa [dne, up_rd, e] using b1
        · simpa [dne, up_rd, e2] using b2
        · simpa [dne, up_rd] using b3
        · simpa [dne, up_rd, e] using b4
  · intro a b r' ha hb hr' hab h1 h2
    by_cases e : a = i
    · subst e
      have h1 : (-1 : Int32) = nI r' := by simpa [dne, up_rd] using h1
      exact nI_m1 (by omega) h1.symm
    · by_cases e2 : b = i
      · subst e2
        have h2 : (-1 : Int32) = nI r' := by simpa [dne, up_rd] using h2
        exact nI_m1 (by omega) h2.symm
      · have h1 : σ 43 0 0 a = nI r' := by simpa [dne, up_rd, e] using h1
        have h2 : σ 43 0 0 b = nI r' := by simpa [dne, up_rd, e2] using h2
        exact g11 a b r' ha hb hr' hab h1 h2
  · simpa [gB, dne, up_rd] using g12 b hb
theorem good0i_44 {i r : Nat} (g : good0i σ R G B P i r) (v : Int32) : good0i (kh_up σ 44 0 0 i v) R G B P i r := by
  obtain ⟨g1, g2, g3, g4, g5, g6, ⟨g7, g8, g9, g10⟩, g11, g12⟩ := g
  refine ⟨?_, fun r' hr' => ?_, fun r' h1 h2 => ?_, fun r' hr' => ?_, fun g' hg' => ?_, ?_, ⟨fun j hj hji => ?_, ?_, ?_, ?_⟩, ?_, fun b hb => ?_⟩
  · simpa [gS, up_rd] using g1
  · simpa [gR, up_rd, rpr_up, rtk_up] using g2 r' hr'
  · simpa [up_rd] using g3 r' h1 h2
  · simpa [gP, up_rd] using g4 r' hr'
  · simpa [gG, up_rd] using g5 g' hg'
  · simpa [gH, up_rd] using g6
  · simpa [gW, up_rd, hji] using g7 j hj hji
  · simpa [up_rd] using g8
  · simpa [up_rd] using g9
  · simpa [up_rd] using g10
  · simpa [gD, up_rd] using g11
  · simpa [gB, up_rd] using g12 b hb
theorem good0_bg {i r : Nat} (g : good0i σ R G B P i r) (hi : i < 3) (hr : r < R) : good0 (bg P σ i r) R G B P := by
  have h0 := good0i_bg0 g hr
  have hR : R ≤ 4 := g.1.2.1
  unfold bg
  generalize bg0 σ i r = σ0 at h0
  obtain ⟨c1, h8, c3, c4, c5⟩ := h0.2.1 r hr
  obtain ⟨n1, n2⟩ := nxt_none (σ := σ0) h8 c4
  unfold bg1
  by_cases h : σ0 27 0 0 r = 0
  · rw [if_neg (fun z => z h)]
    by_cases h2 : σ0 46 0 0 i = 0
    · rw [if_neg (fun z => z h2)]
      exact good0_dne (good0i_44 h0 _) hR hi hr
    · rw [if_pos h2]
      exact good0_bgn h0 hi hr (Or.inl rfl) ⟨5, by omega, by omega, rfl⟩
  · rw [if_pos h]
    obtain ⟨k, hk, e2⟩ := n2 h
    rw [e2, nI_clamp (show k < 2 ^ 31 by omega)]
    exact good0_bgn h0 hi hr (Or.inr ⟨k, hk, rfl⟩) (c3 k hk).2
theorem gQ_bg {i r : Nat} (h26 : σ 26 0 0 r = 3) {r' : Nat} (q : gQ1 σ P r' ∧ gQ2 σ P r') : gQ1 (bg P σ i r) P r' ∧ gQ2 (bg P σ i r) P r' := by
  have e26 : bg P σ i r 26 0 0 r' = 1 → σ 26 0 0 r' = 1 := by
    unfold bg bg1 dne bg0
    by_cases e : r' = r
    · subst e
      intro h
      refine absurd h ?_
      split <;> split <;> first | (split <;> simp [up_rd, h26]) | simp [up_rd, h26]
    · intro h
      revert h
      split <;> split <;> first | (split <;> simp [up_rd, e]) | simp [up_rd, e]
  have e29 : bg P σ i r 29 = σ 29 := bg_ne σ i r (by omega)
  have e30 : bg P σ i r 30 = σ 30 := bg_ne σ i r (by omega)
  have e31 : bg P σ i r 31 = σ 31 := bg_ne σ i r (by omega)
  have e32 : bg P σ i r 32 = σ 32 := bg_ne σ i r (by omega)
  have e37 : bg P σ i r 37 = σ 37 := bg_ne σ i r (by omega)
  have e38 : bg P σ i r 38 = σ 38 := bg_ne σ i r (by omega)
  have e15 : bg P σ i r 15 = σ 15 := bg_ne σ i r (by omega)
  have w : wk (bg P σ i r) r' = wk σ r' := by funext k; simp only [wk, rpr, e32, e15]
  have w1 : rnd (bg P σ i r) r' = rnd σ r' := by funext k; simp only [rnd, e30]
  have w2 : rgv (bg P σ i r) r' = rgv σ r' := by funext k; simp only [rgv, e31]
  refine ⟨fun h1 g hg h2 => ?_, fun h1 g hg h2 => ?_⟩
  · rw [e29] at h2
    rw [e37, e38, w2]
    exact q.1 (e26 h1) g hg h2
  · rw [e29] at h2
    rw [e37, w, w1, w2]
    exact q.2 (e26 h1) g hg h2
end NEXT
