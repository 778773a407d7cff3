/-! the reference's methods on rooms -/
section MROOM
variable {τ : kh_S} {R G B : Nat} {P : Nat → Nat}
theorem at8 (r k : Nat) : (8 : Int32) * nI r + nI k = nI (8 * r + k) := by
  rw [show (8 : Int32) = nI 8 from rfl, pk_mul, nI_add]
theorem at80 (r : Nat) : (8 : Int32) * nI r = nI (8 * r) := by
  rw [show (8 : Int32) = nI 8 from rfl, pk_mul]
theorem m_isOut (g : good0 τ R G B P) {r k : Nat} (hr : r < R) (hk : k < P r) : f_X5_isOut τ (nI (8 * r + k)) = some (if wk τ r k = true then 0 else 1) := by
  have h4 := g.R4
  have d := g.r r hr
  have h8 := d.2.1
  unfold f_X5_isOut f_X5_isOut_L31 f_X5_isOut_L32
  rw [kp_gdT (kp_in (by omega) (by omega)), nI_clamp (by omega)]
  show (if rpr τ r k = -1 then _ else if ((τ 15 2 0 0 >>> (rpr τ r k &&& 31)) &&& 1) = 1 then _ else _) = _
  unfold wk outp
  rcases (d.2.2.1 k hk).1 with e | ⟨q, hq, e⟩
  · rw [if_pos e, e]
    simp [kh_gd, kh_b]
  · have e1 : rpr τ r k ≠ -1 := by rw [e]; exact (by decide : ∀ q, q < 8 → nI q ≠ -1) q hq
    rw [if_neg e1, e, nI_clamp (by omega), decide_eq_true (show nI q ≠ -1 by rw [← e]; exact e1), Bool.true_and]
    cases e2 : bt (τ 15 2 0 0) q with
    | true => rw [if_pos ((kp_shr q (by omega) _).mpr e2)]; simp [kh_gd, kh_b]
    | false => rw [if_neg (fun z => by rw [(kp_shr q (by omega) _).mp z] at e2; cases e2)]; simp [kh_gd, kh_b]
theorem rpass_m1 {S : Nat → Bool} {nd gv : Nat → Int32} {P : Nat} {x : Int32} (h : x = -1) : rch S nd gv P x = x := by
  subst h
  exact sb_anti (fun i hi _ => b_m1 i hi) (rch_ge _)
theorem m_hadOf (g : good0 τ R G B P) {r : Nat} (hr : r < R) (x : Int32) : f_X5_hadOf τ (nI r) x = some (rch (wk τ r) (rnd τ r) (rgv τ r) (P r) x) := by
  have h4 := g.R4
  have d := g.r r hr
  have h8 := d.2.1
  have hin : ∀ (c h : Int32), kh_lp (fun a : Int32 × Int32 => f_X5_hadOf_B20 τ (nI r) c a.1 a.2) 9999 (h, (8 : Int32) * nI r) = some (rpass (wk τ r) (rnd τ r) (rgv τ r) (P r) h) := by
    intro c h
    rw [at80]
    refine kp_lp (P r) (fun k => (rpass (wk τ r) (rnd τ r) (rgv τ r) k h, nI (8 * r + k))) (fun k hk => ?_) ?_ 9999 (by omega)
    · show f_X5_hadOf_B20 τ (nI r) c (rpass (wk τ r) (rnd τ r) (rgv τ r) k h) (nI (8 * r + k)) = some (.inl (rstep (wk τ r) (rnd τ r) (rgv τ r) (rpass (wk τ r) (rnd τ r) (rgv τ r) k h) k, nI (8 * r + (k + 1))))
      unfold f_X5_hadOf_B20 f_X5_hadOf_L70 f_X5_hadOf_L71
      rw [kp_gdT (kp_in (show r < 4 by omega) (by omega)), nI_clamp (show r < 2 ^ 31 by omega), d.1, at8, if_neg (nI_ge (by omega) (by omega)), m_isOut g hr hk, kp_bd, kp_gdT (kp_in (show 8 * r + k < 32 by omega) (by omega)), nI_clamp (by omega), nI_1]
      unfold rstep
      cases e : wk τ r k with
      | false => simp; rfl
      | true =>
        cases e2 : sv (rnd τ r k) (rpass (wk τ r) (rnd τ r) (rgv τ r) k h) with
        | true =>
          have e3 : (τ 30 0 0 (8 * r + k) &&& (rpass (wk τ r) (rnd τ r) (rgv τ r) k h ^^^ (-1))) = 0 := sv_pos e2
          rw [if_pos (show (if true = true then (0 : Int32) else 1) = 0 from rfl), if_pos e3]
          rfl
        | false =>
          have e3 : ¬ (τ 30 0 0 (8 * r + k) &&& (rpass (wk τ r) (rnd τ r) (rgv τ r) k h ^^^ (-1))) = 0 := sv_neg e2
          rw [if_pos (show (if true = true then (0 : Int32) else 1) = 0 from rfl), if_neg e3, Int32.or_zero, if_neg (by decide : ¬ (true = true ∧ false = true))]
          rfl
    · show f_X5_hadOf_B20 τ (nI r) c _ (nI (8 * r + P r)) = _
      unfold f_X5_hadOf_B20
      rw [kp_gdT (kp_in (show r < 4 by omega) (by omega)), nI_clamp (show r < 2 ^ 31 by omega), d.1, at8, if_pos (nI_le (Nat.le_refl _) (by omega))]
  unfold f_X5_hadOf
  by_cases hx : x = -1
  · have hl : kh_lp (fun a : Int32 × Int32 => f_X5_hadOf_B5 τ (nI r) a.1 a.2) 9999 (x, (-1 : Int32)) = some x := by
      refine kp_lp 0 (fun _ => (x, -1)) (fun k hk => by omega) ?_ 9999 (by omega)
      show f_X5_hadOf_B5 τ (nI r) x (-1) = _
      unfold f_X5_hadOf_B5
      rw [if_pos hx]
    rw [hl, rpass_m1 hx]
    rfl
  · obtain ⟨N, hN, h1, h2, h3⟩ := rit_stop (S := wk τ r) (nd := rnd τ r) (gv := rgv τ r) (P := P r) x
    have hl : kh_lp (fun a : Int32 × Int32 => f_X5_hadOf_B5 τ (nI r) a.1 a.2) 9999 (x, (-1 : Int32)) = some (rch (wk τ r) (rnd τ r) (rgv τ r) (P r) x) := by
      refine kp_lp (N + 1) (fun j => (rit (wk τ r) (rnd τ r) (rgv τ r) (P r) j x, if j = 0 then -1 else rit (wk τ r) (rnd τ r) (rgv τ r) (P r) (j - 1) x)) (fun j hj => ?_) ?_ 9999 (by omega)
      · show f_X5_hadOf_B5 τ (nI r) (rit _ _ _ _ j x) _ = _
        unfold f_X5_hadOf_B5
        have hne : ¬ rit (wk τ r) (rnd τ r) (rgv τ r) (P r) j x = (if j = 0 then -1 else rit (wk τ r) (rnd τ r) (rgv τ r) (P r) (j - 1) x) := by
          by_cases e : j = 0
          · subst e; rw [if_pos rfl]; exact hx
          · rw [if_neg e]
            have := h1 (j - 1) (by omega)
            rw [show j - 1 + 1 = j by omega] at this
            exact this
        rw [if_neg hne, hin, kp_bd]
        show some (Sum.inl (_, _)) = _
        rw [if_neg (by omega : ¬ j + 1 = 0)]
        rfl
      · show f_X5_hadOf_B5 τ (nI r) (rit _ _ _ _ (N + 1) x) (if N + 1 = 0 then (-1 : Int32) else rit (wk τ r) (rnd τ r) (rgv τ r) (P r) (N + 1 - 1) x) = _
        unfold f_X5_hadOf_B5
        rw [if_neg (by omega : ¬ N + 1 = 0), show N + 1 - 1 = N by omega, h2, if_pos rfl, h3]
    rw [hl]
    rfl
theorem m_isLeavable (g : good0 τ R G B P) {r : Nat} (hr : r < R) : f_X5_isLeavable τ (nI r) = some (if 0 < P r ∧ bt (rch (wk τ r) (rnd τ r) (rgv τ r) (P r) (τ 24 0 0 r)) 0 = true then 1 else 0) := by
  have h4 := g.R4
  have d := g.r r hr
  have h8 := d.2.1
  unfold f_X5_isLeavable f_X5_isLeavable_L30 f_X5_isLeavable_L31
  rw [kp_gdT (kp_in (show r < 4 by omega) (by omega)), nI_clamp (by omega), d.1, m_hadOf g hr, kp_bd]
  by_cases e : P r = 0
  · rw [if_pos (by rw [e]; decide), if_neg (by omega)]; rfl
  · rw [if_neg (nI_nle (by omega) (by omega))]
    cases e2 : bt (rch (wk τ r) (rnd τ r) (rgv τ r) (P r) (τ 24 0 0 r)) 0 with
    | true => rw [if_pos ((kp_a1' _).mpr e2), if_pos ⟨by omega, rfl⟩]; rfl
    | false => rw [if_neg (fun z => by rw [(kp_a1' _).mp z] at e2; cases e2), if_neg (by simp)]; rfl
theorem m_gapOf (g : good0 τ R G B P) {r : Nat} (hr : r < R) : f_X5_gapOf τ (nI r) = some (gsum (rtk τ r) (P r)) := by
  have h4 := g.R4
  have d := g.r r hr
  have h8 := d.2.1
  unfold f_X5_gapOf
  have hl : kh_lp (fun a : Int32 × Int32 => f_X5_gapOf_B7 τ (nI r) a.1 a.2) 9999 ((5 : Int32), (8 : Int32) * nI r) = some (gsum (rtk τ r) (P r)) := by
    rw [at80]
    refine kp_lp (P r) (fun k => (gsum (rtk τ r) k, nI (8 * r + k))) (fun k hk => ?_) ?_ 9999 (by omega)
    · show f_X5_gapOf_B7 τ (nI r) (gsum (rtk τ r) k) (nI (8 * r + k)) = some (.inl (gsum (rtk τ r) k + rtk τ r k, nI (8 * r + (k + 1))))
      unfold f_X5_gapOf_B7
      rw [kp_gdT (kp_in (show r < 4 by omega) (by omega)), nI_clamp (show r < 2 ^ 31 by omega), d.1, at8, if_neg (nI_ge (by omega) (by omega)), kp_gdT (kp_in (show 8 * r + k < 32 by omega) (by omega)), nI_clamp (by omega), nI_1]
      rfl
    · show f_X5_gapOf_B7 τ (nI r) _ (nI (8 * r + P r)) = _
      unfold f_X5_gapOf_B7
      rw [kp_gdT (kp_in (show r < 4 by omega) (by omega)), nI_clamp (show r < 2 ^ 31 by omega), d.1, at8, if_pos (nI_le (Nat.le_refl _) (by omega))]
  rw [hl]
  rfl
theorem gor_step (S : Nat → Bool) (gv : Nat → Int32) (x : Int32) (k : Nat) : x ||| gby S gv (k + 1) = if S k = true then (x ||| gby S gv k) ||| gv k else x ||| gby S gv k := by
  show x ||| (if S k = true then gby S gv k ||| gv k else gby S gv k) = _
  by_cases h : S k = true
  · rw [if_pos h, if_pos h, Int32.or_assoc]
  · rw [if_neg h, if_neg h]
/-- heldBy reads only how many puzzles there are and what they give -/
theorem m_heldBy (τ : kh_S) {r p : Nat} (hr : r < 4) (e25 : τ 25 0 0 r = nI p) (hp : p ≤ 8) (x set : Int32) : f_X5_heldBy τ (nI r) x set = some (x ||| gby (bt set) (rgv τ r) p) := by
  unfold f_X5_heldBy
  have hl : kh_lp (fun a : Int32 × Int32 => f_X5_heldBy_B6 τ (nI r) set a.1 a.2) 9999 (x, (0 : Int32)) = some (x ||| gby (bt set) (rgv τ r) p) := by
    have h0 : x ||| gby (bt set) (rgv τ r) 0 = x := Int32.or_zero
    have := kp_lp (f := fun a : Int32 × Int32 => f_X5_heldBy_B6 τ (nI r) set a.1 a.2) (b := x ||| gby (bt set) (rgv τ r) p) p (fun k => (x ||| gby (bt set) (rgv τ r) k, nI k)) (fun k hk => ?_) ?_ 9999 (by omega)
    · show kh_lp _ 9999 (x, nI 0) = _
      simp only [h0] at this
      exact this
    · show f_X5_heldBy_B6 τ (nI r) set (x ||| gby (bt set) (rgv τ r) k) (nI k) = some (.inl (x ||| gby (bt set) (rgv τ r) (k + 1), nI (k + 1)))
      unfold f_X5_heldBy_B6 f_X5_heldBy_L45
      rw [kp_gdT (kp_in (show r < 4 by omega) (by omega)), nI_clamp (show r < 2 ^ 31 by omega), e25, if_neg (nI_ge hk (by omega)), at8, kp_gdT (kp_in (show 8 * r + k < 32 by omega) (by omega)), nI_clamp (by omega), nI_1, gor_step]
      cases e : bt set k with
      | true => rw [if_pos ((kp_shr k (by omega) _).mpr e), if_pos rfl]; rfl
      | false =>
        rw [if_neg (fun z => by rw [(kp_shr k (by omega) _).mp z] at e; cases e), if_neg (by simp)]
        rw [Int32.or_zero]
    · show f_X5_heldBy_B6 τ (nI r) set _ (nI p) = _
      unfold f_X5_heldBy_B6
      rw [kp_gdT (kp_in (show r < 4 by omega) (by omega)), nI_clamp (show r < 2 ^ 31 by omega), e25, if_pos (nI_le (Nat.le_refl _) (by omega))]
  rw [hl]
  rfl
end MROOM
/-! what the class's methods on rooms answer -/
section CROOM
variable {ρ σ : kh_S} {R G B : Nat} {P : Nat → Nat}
theorem rch_wk (br : Int32) (S : Nat → Bool) (nd gv : Nat → Int32) (p : Nat) (hp : p ≤ 8) (x : Int32) : rch (bt (bset S p)) nd gv p x = rch S nd gv p x :=
  rch_cong (fun k hk => by rw [bt_bset S p (by omega) k (by omega), decide_eq_true hk, Bool.true_and]) (fun _ _ => rfl) (fun _ _ => rfl) x
theorem c_wk (q : relC ρ σ R G B P) (g : good0 σ R G B P) {r : Nat} (hr : r < R) : f_X2_working ρ r (ρ 0 7 0 0) = some (bset (wk σ r) (P r)) := by
  rw [q.1.2.2.2.2.2.2.1, c_working (q.kR g hr) (fun k hk => ((g.r r hr).2.2.1 k hk).1)]
  rfl
theorem c_reachW (q : relC ρ σ R G B P) (g : good0 σ R G B P) {r : Nat} (hr : r < R) (x : Int32) : f_X2_reach ρ r x (bset (wk σ r) (P r)) = some (rch (wk σ r) (rnd σ r) (rgv σ r) (P r) x) := by
  rw [c_reach (q.kR g hr), rch_wk 0 _ _ _ _ (g.r r hr).2.1]
theorem c_hasExit (q : relC ρ σ R G B P) (g : good0 σ R G B P) {r : Nat} (hr : r < R) : f_X4_hasExit ρ (nI r) = some (if 0 < P r ∧ bt (rch (wk σ r) (rnd σ r) (rgv σ r) (P r) (σ 24 0 0 r)) 0 = true then 1 else 0) := by
  have h4 := g.R4
  have c := q.r r hr
  have h8 := (g.r r hr).2.1
  unfold f_X4_hasExit f_X4_hasExit_L34 f_X4_hasExit_L35
  rw [kp_gdT (q.i6 g hr), nI_clamp (by omega), c.2.2.1, c_wk q g hr, kp_bd, c_reachW q g hr, kp_bd, c_has0, kp_bd, c.2.1]
  by_cases e : P r = 0
  · rw [if_pos (by rw [e]; decide), if_neg (by omega)]; rfl
  · rw [if_neg (nI_nle (by omega) (by omega))]
    cases e2 : bt (rch (wk σ r) (rnd σ r) (rgv σ r) (P r) (σ 24 0 0 r)) 0 with
    | true => simp [kh_gd, kh_b]; omega
    | false => simp [kh_gd, kh_b]
end CROOM
