/-! what the class's small methods on rooms compute -/
theorem c_has (ρ : kh_S) (x : Int32) {k : Nat} (hk : k < 32) : f_X4_has ρ x (nI k) = some (if bt x k = true then 1 else 0) := by
  unfold f_X4_has f_X4_has_L13
  cases e : bt x k with
  | false => rw [if_pos ((kp_has k hk x).mpr e)]; simp [kh_gd, kh_b]
  | true => rw [if_neg (fun h => by rw [(kp_has k hk x).mp h] at e; cases e)]; simp [kh_gd, kh_b]
theorem c_has0 (ρ : kh_S) (x : Int32) : f_X4_has ρ x 0 = some (if bt x 0 = true then 1 else 0) := c_has ρ x (k := 0) (by omega)
theorem c_isWithin (ρ : kh_S) (x y : Int32) : f_X4_isWithin ρ x y = some (if sv x y = true then 1 else 0) := by
  unfold f_X4_isWithin f_X4_isWithin_L13
  cases h : sv x y with
  | true => rw [if_pos (sv_pos h)]; simp [kh_gd, kh_b]
  | false => rw [if_neg (sv_neg h)]; simp [kh_gd, kh_b]
theorem c_with (ρ : kh_S) (x y : Int32) : f_X4_with ρ x y = some (x ||| ((1 : Int32) <<< (y &&& 31))) := rfl
theorem c_without (ρ : kh_S) (x y : Int32) : f_X4_without ρ x y = some (x &&& (((1 : Int32) <<< (y &&& 31)) ^^^ (-1))) := rfl
theorem c_areThings (ρ : kh_S) (x : Int32) : f_X4_areThings ρ x = some (if x < 0 ∨ 4095 < x then 0 else 1) := by
  unfold f_X4_areThings f_X4_areThings_L15 f_X4_areThings_L16
  by_cases h1 : x < 0
  · simp [h1, kh_gd, kh_b]
  · by_cases h2 : 4095 < x
    · simp [h1, h2, kh_gd, kh_b]
    · simp [h1, h2, kh_gd, kh_b]
theorem c_isProp (ρ : kh_S) (x : Int32) : f_X4_isProp ρ x = some (if x < 0 ∨ 8 ≤ x then 0 else 1) := by
  unfold f_X4_isProp f_X4_isProp_L14 f_X4_isProp_L15
  by_cases h1 : x < 0
  · simp [h1, kh_gd, kh_b]
  · by_cases h2 : (8 : Int32) ≤ x
    · simp [h1, h2, kh_gd, kh_b]
    · simp [h1, h2, kh_gd, kh_b]
/-- a room's puzzles as the class holds them -/
def kp_R (ρ : kh_S) (r P : Nat) (nd gv pr : Nat → Int32) : Prop := r < kh_n ρ 6 ∧ ρ 6 6 r 0 = nI P ∧ P ≤ 8 ∧ (∀ k, k < P → ρ 7 0 r k = nd k) ∧ (∀ k, k < P → ρ 8 0 r k = gv k) ∧ ∀ k, k < P → ρ 9 0 r k = pr k
def outp (br p : Int32) : Bool := decide (p ≠ -1) && bt br p.toNatClampNeg
def bset (p : Nat → Bool) : Nat → Int32
  | 0 => 0
  | k + 1 => if p k = true then bset p k ||| ((1 : Int32) <<< (nI k &&& 31)) else bset p k
theorem bt_bset (p : Nat → Bool) : ∀ (n : Nat), n ≤ 32 → ∀ i, i < 32 → bt (bset p n) i = (decide (i < n) && p i)
  | 0, _, i, _ => by show bt 0 i = _; rw [b_0]; simp
  | n + 1, hn, i, hi => by
    show bt (if p n = true then _ else _) i = _
    have ih := bt_bset p n (by omega) i hi
    by_cases h : p n = true
    · rw [if_pos h, b_or, ih, b_bit n (by omega) hi]
      by_cases e : i = n
      · subst e; simp [h]
      · simp only [e, decide_false, Bool.or_false]
        congr 1
        exact decide_eq_decide.mpr (by omega)
    · rw [if_neg h, ih]
      by_cases e : i = n
      · subst e; simp [h]
      · congr 1
        exact decide_eq_decide.mpr (by omega)
def gby (S : Nat → Bool) (gv : Nat → Int32) : Nat → Int32
  | 0 => 0
  | k + 1 => if S k = true then gby S gv k ||| gv k else gby S gv k
def anyb (c : Nat → Bool) : Nat → Bool
  | 0 => false
  | n + 1 => anyb c n || c n
theorem anyb_iff {c : Nat → Bool} : ∀ {n : Nat}, anyb c n = true ↔ ∃ k, k < n ∧ c k = true
  | 0 => by simp [anyb]
  | n + 1 => by
    show (anyb c n || c n) = true ↔ _
    rw [Bool.or_eq_true, anyb_iff]
    constructor
    · rintro (⟨k, h1, h2⟩ | h)
      · exact ⟨k, by omega, h2⟩
      · exact ⟨n, by omega, h⟩
    · rintro ⟨k, h1, h2⟩
      by_cases e : k = n
      · exact Or.inr (e ▸ h2)
      · exact Or.inl ⟨k, by omega, h2⟩
theorem anyb_no {c : Nat → Bool} {n : Nat} (h : anyb c n = false) {k : Nat} (hk : k < n) : c k = false := by
  cases e : c k with
  | false => rfl
  | true => rw [anyb_iff.mpr ⟨k, hk, e⟩] at h; cases h
theorem anyb_first {c : Nat → Bool} : ∀ {n : Nat}, anyb c n = true → ∃ k, k < n ∧ c k = true ∧ ∀ j, j < k → c j = false
  | 0, h => by cases h
  | n + 1, h => by
    cases e : anyb c n with
    | true =>
      obtain ⟨k, h1, h2, h3⟩ := anyb_first e
      exact ⟨k, by omega, h2, h3⟩
    | false =>
      have h1 : (anyb c n || c n) = true := h
      rw [e] at h1
      exact ⟨n, by omega, by simpa using h1, fun j hj => anyb_no e hj⟩
section CR
variable {ρ : kh_S} {r P : Nat} {nd gv pr : Nat → Int32}
theorem c_working (R : kp_R ρ r P nd gv pr) (hpr : ∀ k, k < P → pr k = -1 ∨ ∃ q, q < 8 ∧ pr k = nI q) (br : Int32) : f_X2_working ρ r br = some (bset (fun k => !outp br (pr k)) P) := by
  obtain ⟨h0, hP, hP8, -, -, h9⟩ := R
  unfold f_X2_working
  rw [kp_gdT (decide_eq_true h0)]
  have hl : kh_lp (fun a : Int32 × Int32 => f_X2_working_B4 ρ r br a.1 a.2) 9999 ((0 : Int32), (0 : Int32)) = some (bset (fun k => !outp br (pr k)) P) := by
    refine kp_lp P (fun k => (bset (fun k => !outp br (pr k)) k, nI k)) (fun k hk => ?_) ?_ 9999 (by omega)
    · show f_X2_working_B4 ρ r br (bset _ k) (nI k) = some (.inl (bset _ (k + 1), nI (k + 1)))
      unfold f_X2_working_B4 f_X2_working_L35
      rw [hP, if_neg (nI_ge hk (by omega)), kp_gdT (kp_in (show k < 8 by omega) (by omega)), nI_clamp (by omega), h9 k hk]
      simp only [f_X2_working_L41, c_with, kp_bd, nI_1]
      rcases hpr k hk with e | ⟨q, hq, e⟩
      · rw [if_pos e]
        have : outp br (pr k) = false := by rw [outp, e]; rfl
        simp [bset, this]
      · have e1 : pr k ≠ -1 := by rw [e]; exact (by decide : ∀ q, q < 8 → nI q ≠ -1) q hq
        rw [if_neg e1, e, c_has ρ br (by omega), kp_bd]
        have e2 : outp br (nI q) = bt br q := by
          rw [outp, nI_clamp (by omega)]
          rw [← e, decide_eq_true e1, Bool.true_and]
        cases e3 : bt br q with
        | false => simp [bset, e, e2, e3]
        | true => simp [bset, e, e2, e3]
    · show f_X2_working_B4 ρ r br _ (nI P) = _
      unfold f_X2_working_B4
      rw [hP, if_pos (nI_le (Nat.le_refl _) (by omega))]
  rw [hl]
  rfl
theorem c_isSolvable (R : kp_R ρ r P nd gv pr) {k : Nat} (hk : k < P) (h : Int32) : f_X2_isSolvable ρ r (nI k) h = some (if sv (nd k) h = true then 1 else 0) := by
  obtain ⟨h0, hP, hP8, h7, -, -⟩ := R
  unfold f_X2_isSolvable
  rw [kp_gdT (decide_eq_true h0), kp_gdT (kp_in (show k < 8 by omega) (by omega)), nI_clamp (by omega), h7 k hk, c_isWithin, kp_bd, kp_gdT kp_bi]
theorem c_givenBy (R : kp_R ρ r P nd gv pr) (set : Int32) : f_X2_givenBy ρ r set = some (gby (bt set) gv P) := by
  obtain ⟨h0, hP, hP8, -, h8, -⟩ := R
  unfold f_X2_givenBy
  rw [kp_gdT (decide_eq_true h0)]
  have hl : kh_lp (fun a : Int32 × Int32 => f_X2_givenBy_B4 ρ r set a.1 a.2) 9999 ((0 : Int32), (0 : Int32)) = some (gby (bt set) gv P) := by
    refine kp_lp P (fun k => (gby (bt set) gv k, nI k)) (fun k hk => ?_) ?_ 9999 (by omega)
    · show f_X2_givenBy_B4 ρ r set (gby (bt set) gv k) (nI k) = some (.inl (gby (bt set) gv (k + 1), nI (k + 1)))
      unfold f_X2_givenBy_B4 f_X2_givenBy_L29
      rw [hP, if_neg (nI_ge hk (by omega)), c_has ρ set (by omega), kp_bd, kp_gdT (kp_in (show k < 8 by omega) (by omega)), nI_clamp (by omega), h8 k hk]
      cases e : bt set k with
      | false => simp [gby, e, nI_1]
      | true => simp [gby, e, nI_1]
    · show f_X2_givenBy_B4 ρ r set _ (nI P) = _
      unfold f_X2_givenBy_B4
      rw [hP, if_pos (nI_le (Nat.le_refl _) (by omega))]
  rw [hl]
  rfl
theorem c_reach (R : kp_R ρ r P nd gv pr) (from_ set : Int32) : f_X2_reach ρ r from_ set = some (rch (bt set) nd gv P from_) := by
  have R0 := R
  obtain ⟨h0, hP, hP8, h7, h8, -⟩ := R
  unfold f_X2_reach
  rw [kp_gdT (decide_eq_true h0)]
  have hin : ∀ (c h : Int32), kh_lp (fun a : Int32 × Int32 => f_X2_reach_B17 ρ r set c a.1 a.2) 9999 (h, (0 : Int32)) = some (rpass (bt set) nd gv P h) := by
    intro c h
    refine kp_lp P (fun k => (rpass (bt set) nd gv k h, nI k)) (fun k hk => ?_) ?_ 9999 (by omega)
    · show f_X2_reach_B17 ρ r set c (rpass (bt set) nd gv k h) (nI k) = some (.inl (rpass (bt set) nd gv (k + 1) h, nI (k + 1)))
      unfold f_X2_reach_B17 f_X2_reach_L55
      rw [hP, if_neg (nI_ge hk (by omega)), c_has ρ set (by omega), kp_bd, c_isSolvable R0 hk, kp_bd, kp_gdT (kp_in (show k < 8 by omega) (by omega)), nI_clamp (by omega), h8 k hk]
      show _ = some (Sum.inl (rstep (bt set) nd gv (rpass (bt set) nd gv k h) k, nI (k + 1)))
      unfold rstep
      cases e : bt set k with
      | false => simp [nI_1]
      | true =>
        cases e2 : sv (nd k) (rpass (bt set) nd gv k h) with
        | true => simp [e2, nI_1]
        | false => simp [e2, nI_1]
    · show f_X2_reach_B17 ρ r set c _ (nI P) = _
      unfold f_X2_reach_B17
      rw [hP, if_pos (nI_le (Nat.le_refl _) (by omega))]
  have hl : kh_lp (fun a : Int32 × Int32 => f_X2_reach_B5 ρ r set a.1 a.2) 9999 (from_, (0 : Int32)) = some (rch (bt set) nd gv P from_) := by
    refine kp_lp P (fun j => (rit (bt set) nd gv P j from_, nI j)) (fun j hj => ?_) ?_ 9999 (by omega)
    · show f_X2_reach_B5 ρ r set (rit (bt set) nd gv P j from_) (nI j) = some (.inl (rit (bt set) nd gv P (j + 1) from_, nI (j + 1)))
      unfold f_X2_reach_B5
      rw [hP, if_neg (nI_ge hj (by omega)), hin, kp_bd]
      show some (Sum.inl (_, nI j + 1)) = _
      rw [nI_1]
      rfl
    · show f_X2_reach_B5 ρ r set _ (nI P) = _
      unfold f_X2_reach_B5
      rw [hP, if_pos (nI_le (Nat.le_refl _) (by omega))]
      rfl
  rw [hl]
  rfl
theorem c_lowest0 (R : kp_R ρ r P nd gv pr) (set h : Int32) (hn : ∀ k, k < P → bt set k = true → sv (nd k) h = false) : f_X2_lowestSolvable ρ r set h = some (-1) := by
  have R0 := R
  obtain ⟨h0, hP, hP8, -, -, -⟩ := R
  unfold f_X2_lowestSolvable
  rw [kp_gdT (decide_eq_true h0)]
  have hl : kh_lp (fun a : Int32 => f_X2_lowestSolvable_B2 ρ r set h a) 9999 (0 : Int32) = some (.inr ()) := by
    refine kp_lp P (fun k => nI k) (fun k hk => ?_) ?_ 9999 (by omega)
    · show f_X2_lowestSolvable_B2 ρ r set h (nI k) = some (.inl (nI (k + 1)))
      unfold f_X2_lowestSolvable_B2 f_X2_lowestSolvable_L29
      rw [hP, if_neg (nI_ge hk (by omega)), c_has ρ set (by omega), kp_bd, c_isSolvable R0 hk, kp_bd]
      cases e : bt set k with
      | false => simp [nI_1]
      | true => simp [hn k hk e, nI_1]
    · show f_X2_lowestSolvable_B2 ρ r set h (nI P) = _
      unfold f_X2_lowestSolvable_B2
      rw [hP, if_pos (nI_le (Nat.le_refl _) (by omega))]
  rw [hl]
  rfl
theorem c_lowest1 (R : kp_R ρ r P nd gv pr) (set h : Int32) {m : Nat} (hm : m < P) (h1 : bt set m = true) (h2 : sv (nd m) h = true) (hn : ∀ k, k < m → bt set k = true → sv (nd k) h = false) : f_X2_lowestSolvable ρ r set h = some (nI m) := by
  have R0 := R
  obtain ⟨h0, hP, hP8, -, -, -⟩ := R
  unfold f_X2_lowestSolvable
  rw [kp_gdT (decide_eq_true h0)]
  have hl : kh_lp (fun a : Int32 => f_X2_lowestSolvable_B2 ρ r set h a) 9999 (0 : Int32) = some (.inl (nI m)) := by
    refine kp_lp m (fun k => nI k) (fun k hk => ?_) ?_ 9999 (by omega)
    · show f_X2_lowestSolvable_B2 ρ r set h (nI k) = some (.inl (nI (k + 1)))
      unfold f_X2_lowestSolvable_B2 f_X2_lowestSolvable_L29
      rw [hP, if_neg (nI_ge (show k < P by omega) (by omega)), c_has ρ set (by omega), kp_bd, c_isSolvable R0 (by omega), kp_bd]
      cases e : bt set k with
      | false => simp [nI_1]
      | true => simp [hn k hk e, nI_1]
    · show f_X2_lowestSolvable_B2 ρ r set h (nI m) = _
      unfold f_X2_lowestSolvable_B2
      rw [hP, if_neg (nI_ge hm (by omega)), c_has ρ set (by omega), kp_bd, c_isSolvable R0 hm, kp_bd]
      simp [h1, h2]
  rw [hl]
  rfl
def giv (g th : Int32) : Int32 := g &&& (th ^^^ (-1))
/-- whether puzzle j, still to be reset, needs what k gives -/
def nedc (nd : Nat → Int32) (tr given : Int32) (k j : Nat) : Bool := decide (j ≠ k) && bt tr j && decide ((nd j &&& given) ≠ 0)
theorem c_isNeeded (R : kp_R ρ r P nd gv pr) {k : Nat} (hk : k < P) : f_X2_isNeededByOther ρ r (nI k) = some (if anyb (nedc nd (ρ 6 9 r 0) (giv (gv k) (ρ 6 1 r 0)) k) P = true then 1 else 0) := by
  obtain ⟨h0, hP, hP8, h7, h8, -⟩ := R
  unfold f_X2_isNeededByOther
  rw [kp_gdT (decide_eq_true h0), kp_gdT (kp_in (show k < 8 by omega) (by omega)), nI_clamp (by omega), h8 k hk]
  show kh_bd (kh_lp (fun a : Int32 => f_X2_isNeededByOther_B16 ρ r (nI k) (giv (gv k) (ρ 6 1 r 0)) a) 9999 (0 : Int32)) (f_X2_isNeededByOther_A16 ρ r (nI k) (giv (gv k) (ρ 6 1 r 0))) = _
  generalize giv (gv k) (ρ 6 1 r 0) = given
  have hstep : ∀ j, j < P → nedc nd (ρ 6 9 r 0) given k j = false → f_X2_isNeededByOther_B16 ρ r (nI k) given (nI j) = some (.inl (nI (j + 1))) := by
    intro j hj hn
    unfold f_X2_isNeededByOther_B16 f_X2_isNeededByOther_L53
    rw [hP, if_neg (nI_ge hj (by omega)), c_has ρ _ (by omega), kp_bd, kp_gdT (kp_in (show j < 8 by omega) (by omega)), nI_clamp (by omega), h7 j hj, nI_1]
    by_cases e : j = k
    · subst e; simp
    · rw [if_neg (fun h => e ((nI_eq (by omega) (by omega)).mp h))]
      cases e2 : bt (ρ 6 9 r 0) j with
      | false => simp
      | true =>
        have e3 : (nd j &&& given) = 0 := by
          simp only [nedc, e2, Bool.and_true, decide_eq_true (show j ≠ k from e), Bool.true_and, decide_eq_false_iff_not] at hn
          exact Classical.byContradiction hn
        simp [e3]
  have hend : f_X2_isNeededByOther_B16 ρ r (nI k) given (nI P) = some (.inr (.inr ())) := by
    unfold f_X2_isNeededByOther_B16
    rw [hP, if_pos (nI_le (Nat.le_refl _) (by omega))]
  cases e : anyb (nedc nd (ρ 6 9 r 0) given k) P with
  | false =>
    have hl : kh_lp (fun a : Int32 => f_X2_isNeededByOther_B16 ρ r (nI k) given a) 9999 (0 : Int32) = some (.inr ()) :=
      kp_lp P (fun j => nI j) (fun j hj => hstep j hj (anyb_no e hj)) hend 9999 (by omega)
    rw [hl]
    rfl
  | true =>
    obtain ⟨m, hm, h1, h2⟩ := anyb_first e
    have hl : kh_lp (fun a : Int32 => f_X2_isNeededByOther_B16 ρ r (nI k) given a) 9999 (0 : Int32) = some (.inl ()) := by
      refine kp_lp m (fun j => nI j) (fun j hj => hstep j (by omega) (h2 j hj)) ?_ 9999 (by omega)
      show f_X2_isNeededByOther_B16 ρ r (nI k) given (nI m) = some (.inr (.inl ()))
      unfold f_X2_isNeededByOther_B16
      simp only [nedc, Bool.and_eq_true, decide_eq_true_eq] at h1
      rw [hP, if_neg (nI_ge hm (by omega)), if_neg (fun h => h1.1.1 ((nI_eq (by omega) (by omega)).mp h)), c_has ρ _ (by omega), kp_bd, kp_gdT (kp_in (show m < 8 by omega) (by omega)), nI_clamp (by omega), h7 m hm]
      simp [h1.1.2, h1.2]
    rw [hl]
    rfl
/-- the greatest, and the greatest that no other needs -/
def nrf (p q : Nat → Bool) (a0 : Int32) : Nat → Int32 × Int32
  | 0 => (a0, -1)
  | k + 1 => if p k = true then (nI k, if q k = true then (nrf p q a0 k).2 else nI k) else nrf p q a0 k
def nrx (u : Int32 × Int32) : Int32 := if u.2 = -1 then u.1 else u.2
def nedb (nd gv : Nat → Int32) (tr th : Int32) (P k : Nat) : Bool := anyb (nedc nd tr (giv (gv k) th) k) P
theorem c_nextToReset (R : kp_R ρ r P nd gv pr) : f_X2_nextToReset ρ r = some (nrx (nrf (bt (ρ 6 9 r 0)) (nedb nd gv (ρ 6 9 r 0) (ρ 6 1 r 0) P) 0 P)) := by
  have R0 := R
  obtain ⟨h0, hP, hP8, h7, h8, -⟩ := R
  unfold f_X2_nextToReset
  rw [kp_gdT (decide_eq_true h0)]
  have hl : kh_lp (fun a : Int32 × Int32 × Int32 => f_X2_nextToReset_B6 ρ r a.1 a.2.1 a.2.2) 9999 ((0 : Int32), (-1 : Int32), (0 : Int32)) = some (nrf (bt (ρ 6 9 r 0)) (nedb nd gv (ρ 6 9 r 0) (ρ 6 1 r 0) P) 0 P) := by
    refine kp_lp P (fun k => ((nrf (bt (ρ 6 9 r 0)) (nedb nd gv (ρ 6 9 r 0) (ρ 6 1 r 0) P) 0 k).1, (nrf (bt (ρ 6 9 r 0)) (nedb nd gv (ρ 6 9 r 0) (ρ 6 1 r 0) P) 0 k).2, nI k)) (fun k hk => ?_) ?_ 9999 (by omega)
    · show f_X2_nextToReset_B6 ρ r _ _ (nI k) = some (.inl (_, _, nI (k + 1)))
      unfold f_X2_nextToReset_B6 f_X2_nextToReset_L37
      rw [hP, if_neg (nI_ge hk (by omega)), c_has ρ _ (by omega), kp_bd, c_isNeeded R0 hk, kp_bd]
      show _ = some (Sum.inl ((if bt (ρ 6 9 r 0) k = true then _ else _ : Int32 × Int32).1, (if bt (ρ 6 9 r 0) k = true then _ else _ : Int32 × Int32).2, nI (k + 1)))
      cases e : bt (ρ 6 9 r 0) k with
      | false => simp [nI_1]
      | true =>
        cases e2 : nedb nd gv (ρ 6 9 r 0) (ρ 6 1 r 0) P k with
        | false =>
          unfold nedb at e2
          simp [e2, nI_1]
        | true =>
          unfold nedb at e2
          simp [e2, nI_1]
    · show f_X2_nextToReset_B6 ρ r _ _ (nI P) = _
      unfold f_X2_nextToReset_B6
      rw [hP, if_pos (nI_le (Nat.le_refl _) (by omega))]
  rw [hl]
  show f_X2_nextToReset_L43 ρ r _ _ = _
  unfold f_X2_nextToReset_L43 f_X2_nextToReset_L53 nrx
  split <;> rfl
end CR
