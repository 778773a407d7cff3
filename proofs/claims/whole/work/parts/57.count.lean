/-! the orders, counted in three ways -/
def sm (f : Nat → Int32) : Nat → Int32
  | 0 => 0
  | n + 1 => sm f n + f n
theorem sm_cong {f g : Nat → Int32} : ∀ {n : Nat}, (∀ k, k < n → f k = g k) → sm f n = sm g n
  | 0, _ => rfl
  | n + 1, h => by
    show sm f n + f n = sm g n + g n
    rw [sm_cong (fun k hk => h k (by omega)), h n (by omega)]
theorem sm_zero {f : Nat → Int32} : ∀ {n : Nat}, (∀ k, k < n → f k = 0) → sm f n = 0
  | 0, _ => rfl
  | n + 1, h => by
    show sm f n + f n = 0
    rw [sm_zero (fun k hk => h k (by omega)), h n (by omega)]
    rfl
theorem sm_mul (w : Int32) (f : Nat → Int32) : ∀ n, sm (fun k => w * f k) n = w * sm f n
  | 0 => by
    show (0 : Int32) = w * 0
    grind
  | n + 1 => by
    show sm (fun k => w * f k) n + w * f n = w * (sm f n + f n)
    rw [sm_mul w f n]
    grind
theorem sm_at {f g : Nat → Int32} {t : Nat} {d : Int32} (h1 : g t = f t + d) (h2 : ∀ k, k ≠ t → g k = f k) : ∀ {n : Nat}, t < n → sm g n = sm f n + d
  | n + 1, hn => by
    show sm g n + g n = sm f n + f n + d
    by_cases e : t = n
    · subst e
      rw [h1, sm_cong (f := g) (g := f) (fun k hk => h2 k (by omega))]
      grind
    · rw [sm_at h1 h2 (n := n) (by omega), h2 n (fun z => e z.symm)]
      grind
theorem bt_set {s k : Nat} (hk : k < 32) : nI s ||| ((1 : Int32) <<< (nI k &&& 31)) = nI (s ||| 2 ^ k) := by
  refine b_ext fun i hi => ?_
  rw [b_or, b_bit k hk hi, b_nI s hi, b_nI _ hi, Nat.testBit_or, Nat.testBit_two_pow]
  congr 1
  exact decide_eq_decide.mpr ⟨fun h => h.symm, fun h => h.symm⟩
theorem set_lt {s k p : Nat} (hs : s < 2 ^ p) (hk : k < p) : s ||| 2 ^ k < 2 ^ p := Nat.or_lt_two_pow hs (Nat.pow_lt_pow_right (by omega) hk)
theorem set_gt {s k : Nat} (hk : k < 32) (h : bt (nI s) k = false) : s < s ||| 2 ^ k := by
  have h1 : s ≤ s ||| 2 ^ k := Nat.left_le_or
  have h2 : s ≠ s ||| 2 ^ k := by
    intro e
    have h3 : (s ||| 2 ^ k).testBit k = true := by rw [Nat.testBit_or, Nat.testBit_two_pow]; simp
    rw [← e, ← b_nI s hk, h] at h3
    cases h3
  omega
theorem bt_set2 {s k : Nat} (hk : k < 32) {i : Nat} (hi : i < 32) : bt (nI (s ||| 2 ^ k)) i = (bt (nI s) i || decide (i = k)) := by
  rw [← bt_set hk, b_or, b_bit k hk hi]
theorem gby_le {S : Nat → Bool} {gv : Nat → Int32} {c : Int32} : ∀ {p : Nat}, (∀ k, k < p → S k = true → sb (gv k) c) → sb (gby S gv p) c
  | 0, _ => fun i hi h => by
    have h : bt 0 i = true := h
    rw [b_0] at h; cases h
  | p + 1, h => by
    show sb (if S p = true then gby S gv p ||| gv p else gby S gv p) c
    have ih := gby_le (S := S) (gv := gv) (c := c) (p := p) (fun k hk => h k (by omega))
    split
    · rename_i e
      exact sb_or ih (h p (by omega) e)
    · exact ih
section COUNT
variable {S : Nat → Bool} {nd gv : Nat → Int32} {th : Int32} {p : Nat}
/-- what is held behind a set of puzzles -/
def hS (gv : Nat → Int32) (th : Int32) (p s : Nat) : Int32 := th ||| gby (bt (nI s)) gv p
def can (S : Nat → Bool) (nd gv : Nat → Int32) (th : Int32) (p s k : Nat) : Bool := !bt (nI s) k && S k && sv (nd k) (hS gv th p s)
def fo (S : Nat → Bool) (nd gv : Nat → Int32) (th : Int32) (p : Nat) : Nat → Nat → Int32
  | 0, s => if bt (hS gv th p s) 0 = true then 1 else 0
  | f + 1, s => if bt (hS gv th p s) 0 = true then 1 else sm (fun k => if can S nd gv th p s k = true then fo S nd gv th p f (s ||| 2 ^ k) else 0) p
theorem hS_or {s k : Nat} (hk : k < p) (hp : p ≤ 8) : hS gv th p (s ||| 2 ^ k) = hS gv th p s ||| gv k := by
  unfold hS
  refine sb_anti (sb_or (sb_tr (sb_orl _ _) (sb_orl _ _)) (gby_le fun j hj h => ?_)) (sb_or (sb_or (sb_orl _ _) (gby_le fun j hj h => ?_)) ?_)
  · rw [bt_set2 (by omega) (by omega), Bool.or_eq_true] at h
    rcases h with h | h
    · exact sb_tr (gby_ge (gv := gv) hj h) (sb_tr (sb_orr _ _) (sb_orl _ _))
    · have : j = k := of_decide_eq_true h
      subst this
      exact sb_orr _ _
  · refine sb_tr (gby_ge (gv := gv) (S := bt (nI (s ||| 2 ^ k))) hj ?_) (sb_orr _ _)
    rw [bt_set2 (by omega) (by omega), h]
    rfl
  · refine sb_tr (gby_ge (gv := gv) (S := bt (nI (s ||| 2 ^ k))) hk ?_) (sb_orr _ _)
    rw [bt_set2 (by omega) (by omega)]
    simp
theorem cnt_up {s k : Nat} (hk : k < p) (hp : p ≤ 8) (h : bt (nI s) k = false) : fb_ct (bt (nI s)) p < fb_ct (bt (nI (s ||| 2 ^ k))) p := by
  refine ct_lt (fun j hj h2 => ?_) ⟨k, hk, h, ?_⟩
  · rw [bt_set2 (by omega) (by omega), h2]; rfl
  · rw [bt_set2 (by omega) (by omega)]; simp
theorem can_bt {s k : Nat} (h : can S nd gv th p s k = true) : bt (nI s) k = false := by
  unfold can at h
  simp only [Bool.and_eq_true, Bool.not_eq_true'] at h
  exact h.1.1
theorem fo_fuel (hp : p ≤ 8) : ∀ f s, p ≤ fb_ct (bt (nI s)) p + f → fo S nd gv th p (f + 1) s = fo S nd gv th p f s
  | 0, s, h => by
    show (if bt (hS gv th p s) 0 = true then (1 : Int32) else _) = (if bt (hS gv th p s) 0 = true then 1 else 0)
    rw [sm_zero (fun k hk => ?_)]
    have h2 := ct_full (p := bt (nI s)) (n := p) (by omega) k hk
    rw [if_neg (fun z => by rw [can_bt z] at h2; cases h2)]
  | f + 1, s, h => by
    show (if bt (hS gv th p s) 0 = true then (1 : Int32) else sm (fun k => if can S nd gv th p s k = true then fo S nd gv th p (f + 1) (s ||| 2 ^ k) else 0) p) = (if bt (hS gv th p s) 0 = true then 1 else sm (fun k => if can S nd gv th p s k = true then fo S nd gv th p f (s ||| 2 ^ k) else 0) p)
    rw [sm_cong (f := fun k => if can S nd gv th p s k = true then fo S nd gv th p (f + 1) (s ||| 2 ^ k) else 0) (fun k hk => ?_)]
    show (if can S nd gv th p s k = true then fo S nd gv th p (f + 1) (s ||| 2 ^ k) else 0) = if can S nd gv th p s k = true then fo S nd gv th p f (s ||| 2 ^ k) else 0
    by_cases e : can S nd gv th p s k = true
    · rw [if_pos e, if_pos e]
      have := cnt_up hk hp (can_bt e)
      exact fo_fuel hp f (s ||| 2 ^ k) (by omega)
    · rw [if_neg e, if_neg e]
/-- in how many orders the way out is found from a set on -/
def Wn (S : Nat → Bool) (nd gv : Nat → Int32) (th : Int32) (p s : Nat) : Int32 := fo S nd gv th p 8 s
theorem Wn_out {s : Nat} (h : bt (hS gv th p s) 0 = true) : Wn S nd gv th p s = 1 := if_pos h
theorem Wn_in (hp : p ≤ 8) {s : Nat} (h : bt (hS gv th p s) 0 = false) : Wn S nd gv th p s = sm (fun k => if can S nd gv th p s k = true then Wn S nd gv th p (s ||| 2 ^ k) else 0) p := by
  show (if bt (hS gv th p s) 0 = true then (1 : Int32) else sm (fun k => if can S nd gv th p s k = true then fo S nd gv th p 7 (s ||| 2 ^ k) else 0) p) = _
  rw [h, if_neg (by decide)]
  refine sm_cong fun k hk => ?_
  by_cases e : can S nd gv th p s k = true
  · rw [if_pos e, if_pos e]
    have := cnt_up hk hp (can_bt e)
    exact (fo_fuel hp 7 (s ||| 2 ^ k) (by omega)).symm
  · rw [if_neg e, if_neg e]
theorem fo_none {c : Int32} (hc : rclosed S nd gv p c) (h0 : bt c 0 = false) (hp : p ≤ 8) : ∀ f s, sb (hS gv th p s) c → fo S nd gv th p f s = 0
  | 0, s, h => by
    have : bt (hS gv th p s) 0 = false := by
      cases e : bt (hS gv th p s) 0 with
      | false => rfl
      | true => rw [h 0 (by omega) e] at h0; cases h0
    show (if bt (hS gv th p s) 0 = true then (1 : Int32) else 0) = 0
    rw [this, if_neg (by decide)]
  | f + 1, s, h => by
    have : bt (hS gv th p s) 0 = false := by
      cases e : bt (hS gv th p s) 0 with
      | false => rfl
      | true => rw [h 0 (by omega) e] at h0; cases h0
    show (if bt (hS gv th p s) 0 = true then (1 : Int32) else sm (fun k => if can S nd gv th p s k = true then fo S nd gv th p f (s ||| 2 ^ k) else 0) p) = 0
    rw [this, if_neg (by decide)]
    refine sm_zero fun k hk => ?_
    by_cases e : can S nd gv th p s k = true
    · rw [if_pos e]
      refine fo_none hc h0 hp f (s ||| 2 ^ k) ?_
      rw [hS_or hk hp]
      unfold can at e
      simp only [Bool.and_eq_true, Bool.not_eq_true'] at e
      exact sb_or h (hc k hk e.1.2 (sb_tr (sv_iff.mp e.2) h))
    · rw [if_neg e]
end COUNT
theorem hS_0 (gv : Nat → Int32) (th : Int32) (p : Nat) : hS gv th p 0 = th := by
  unfold hS
  refine sb_self (gby_le fun k hk h => ?_)
  rw [nI_0, b_0] at h
  cases h
theorem shl_p : ∀ p, p ≤ 8 → ((1 : Int32) <<< (nI p &&& 31)) = nI (2 ^ p) := by decide
theorem pow_p : ∀ p, p ≤ 8 → 2 ^ p ≤ 256 := by decide
/-! one by one -/
section ONE
variable {ρ σ τ : kh_S} {R G B : Nat} {P : Nat → Nat}
theorem c_one {r p : Nat} {nd gv pr : Nat → Int32} (Rk : kp_R ρ r p nd gv pr) (hin : kh_in (nI r) (kh_n ρ 6) = true) (hr : r < 4) (S : Nat → Bool) (th : Int32) : ∀ (f : Nat), f ≤ 8 → ∀ (s : Nat) (left : Int32), s < 2 ^ p → (∀ k, k < p → bt left k = (S k && !bt (nI s) k)) → f_X4_countOrdersOneByOne (f + 2) ρ (nI r) (hS gv th p s) left (nI (8 - f)) = some (fo S nd gv th p f s) := by
  have hcr : (nI r).toNatClampNeg = r := nI_clamp (by omega)
  obtain ⟨k0, k1, k2, k3, k4, k5⟩ := Rk
  intro f
  induction f with
  | zero =>
    intro hf s left hs hl
    show f_X4_countOrdersOneByOne_s _ ρ (nI r) (hS gv th p s) left (nI 8) = _
    unfold f_X4_countOrdersOneByOne_s
    rw [c_has0, kp_bd]
    show _ = some (if bt (hS gv th p s) 0 = true then (1 : Int32) else 0)
    cases e : bt (hS gv th p s) 0 with
    | true => rfl
    | false => rfl
  | succ f ih =>
    intro hf s left hs hl
    show f_X4_countOrdersOneByOne_s (f_X4_countOrdersOneByOne (f + 2)) ρ (nI r) (hS gv th p s) left (nI (8 - (f + 1))) = _
    unfold f_X4_countOrdersOneByOne_s
    rw [c_has0, kp_bd]
    show _ = some (if bt (hS gv th p s) 0 = true then (1 : Int32) else sm (fun k => if can S nd gv th p s k = true then fo S nd gv th p f (s ||| 2 ^ k) else 0) p)
    cases e : bt (hS gv th p s) 0 with
    | true => rfl
    | false =>
      rw [if_pos (show (if false = true then (1 : Int32) else 0) = 0 from rfl), if_pos (show nI (8 - (f + 1)) < 8 from nI_lt (b := 8) (by omega) (by omega))]
      have hl2 : kh_lp (fun a : Int32 × Int32 => f_X4_countOrdersOneByOne_B24 (f_X4_countOrdersOneByOne (f + 2)) ρ (nI r) (hS gv th p s) left (nI (8 - (f + 1))) a.1 a.2) 9999 ((0 : Int32), (0 : Int32)) = some (sm (fun k => if can S nd gv th p s k = true then fo S nd gv th p f (s ||| 2 ^ k) else 0) p) := by
        refine kp_lp p (fun k => (sm (fun k => if can S nd gv th p s k = true then fo S nd gv th p f (s ||| 2 ^ k) else 0) k, nI k)) (fun k hk => ?_) ?_ 9999 (by omega)
        · show f_X4_countOrdersOneByOne_B24 _ ρ (nI r) (hS gv th p s) left (nI (8 - (f + 1))) (sm (fun k => if can S nd gv th p s k = true then fo S nd gv th p f (s ||| 2 ^ k) else 0) k) (nI k) = some (.inl (sm (fun k => if can S nd gv th p s k = true then fo S nd gv th p f (s ||| 2 ^ k) else 0) k + (if can S nd gv th p s k = true then fo S nd gv th p f (s ||| 2 ^ k) else 0), nI (k + 1)))
          generalize sm (fun k => if can S nd gv th p s k = true then fo S nd gv th p f (s ||| 2 ^ k) else 0) k = acc
          unfold f_X4_countOrdersOneByOne_B24 f_X4_countOrdersOneByOne_L79
          rw [kp_gdT hin, hcr, k1, if_neg (nI_ge hk (by omega)), c_has _ _ (by omega), kp_bd, hl k hk, c_isSolvable ⟨k0, k1, k2, k3, k4, k5⟩ hk, kp_bd, kp_gdT (kp_in (show k < 8 by omega) (by omega)), c_without, kp_bd, nI_clamp (show k < 2 ^ 31 by omega), k4 k hk, nI_1]
          unfold can
          cases e1 : S k with
          | false => rw [Bool.false_and, Bool.and_false, Bool.false_and, if_pos (by decide), if_neg (by decide), Int32.add_zero]
          | true =>
            rw [Bool.true_and, Bool.and_true]
            cases e2 : bt (nI s) k with
            | true => rw [if_pos (by decide), if_neg (by simp), Int32.add_zero]
            | false =>
              rw [if_neg (by decide), Bool.not_false, Bool.true_and]
              cases e3 : sv (nd k) (hS gv th p s) with
              | false => rw [if_pos (by decide), if_neg (by decide), Int32.add_zero]
              | true =>
                rw [if_neg (by decide), if_pos rfl, ← hS_or hk k2]
                have hd : nI (8 - (f + 1)) + 1 = nI (8 - f) := by
                  rw [nI_1, show 8 - (f + 1) + 1 = 8 - f by omega]
                rw [hd, ih (by omega) (s ||| 2 ^ k) _ (set_lt hs hk) (fun j hj => ?_), kp_bd]
                rw [b_and, b_not _ (by omega), b_bit k (by omega) (by omega), hl j hj, bt_set2 (by omega) (by omega)]
                cases S j <;> cases bt (nI s) j <;> simp
        · show f_X4_countOrdersOneByOne_B24 _ ρ (nI r) _ left _ _ (nI p) = _
          unfold f_X4_countOrdersOneByOne_B24
          rw [kp_gdT hin, hcr, k1, if_pos (nI_le (Nat.le_refl _) (by omega))]
      rw [hl2, kp_bd]
      rfl
theorem c_ordersAnew (q : relC ρ σ R G B P) (g : good0 σ R G B P) {r : Nat} (hr : r < R) : f_X4_ordersAnew ρ (nI r) = some (.inr (Wn (wk σ r) (rnd σ r) (rgv σ r) (σ 24 0 0 r) (P r) 0)) := by
  have h4 := g.R4
  have h8 := (g.r r hr).2.1
  have hcr : (nI r).toNatClampNeg = r := nI_clamp (by omega)
  unfold f_X4_ordersAnew
  rw [c_rn1 q g hr, kp_bxr, kp_gdT (q.i6 g hr), hcr, c_wk q g hr, kp_bd, (q.r r hr).2.1, c_reachW q g hr, kp_bd, c_has0, kp_bd]
  cases e : bt (rch (wk σ r) (rnd σ r) (rgv σ r) (P r) (σ 24 0 0 r)) 0 with
  | false =>
    rw [if_pos (by decide)]
    have : Wn (wk σ r) (rnd σ r) (rgv σ r) (σ 24 0 0 r) (P r) 0 = 0 := fo_none (rch_closed _) e h8 8 0 (by rw [hS_0]; exact rch_ge _)
    rw [this]
  | true =>
    rw [if_neg (by decide)]
    have h := c_one (q.kR g hr) (q.i6 g hr) (by omega) (wk σ r) (σ 24 0 0 r) 8 (Nat.le_refl _) 0 (bset (wk σ r) (P r)) (Nat.pow_pos (by omega)) (fun k hk => by
      rw [bt_bset _ _ (by omega) k (by omega), decide_eq_true hk, nI_0, b_0]
      simp)
    rw [hS_0] at h
    rw [show (0 : Int32) = nI (8 - 8) from rfl, h, kp_bd]
    rfl
end ONE
