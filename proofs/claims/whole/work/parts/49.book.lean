/-! bookings -/
theorem kp_lpE {α β : Type} {f : α → Option (α ⊕ β)} {Q : β → Prop} : ∀ (N : Nat) (I : Nat → α → Prop), (∀ j a, j < N → I j a → (∃ a', f a = some (.inl a') ∧ I (j + 1) a') ∨ ∃ b, f a = some (.inr b) ∧ Q b) → (∀ a, I N a → ∃ b, f a = some (.inr b) ∧ Q b) → ∀ n, N < n → ∀ a, I 0 a → ∃ b, kh_lp f n a = some b ∧ Q b
  | 0, I, _, he, n, hn, a, h0 => by
    obtain ⟨m, rfl⟩ : ∃ m, n = m + 1 := ⟨n - 1, by omega⟩
    obtain ⟨b, e, hq⟩ := he a h0
    refine ⟨b, ?_, hq⟩
    unfold kh_lp
    rw [e]
  | N + 1, I, h, he, n, hn, a, h0 => by
    obtain ⟨m, rfl⟩ : ∃ m, n = m + 1 := ⟨n - 1, by omega⟩
    rcases h 0 a (by omega) h0 with ⟨a', e, h1⟩ | ⟨b, e, hq⟩
    · obtain ⟨b, e2, hq⟩ := kp_lpE N (fun j => I (j + 1)) (fun j a hj => h (j + 1) a (by omega)) he m (by omega) a' h1
      refine ⟨b, ?_, hq⟩
      unfold kh_lp
      rw [e]
      exact e2
    · refine ⟨b, ?_, hq⟩
      unfold kh_lp
      rw [e]
theorem ds_key : ∀ k, k < 16 → ∀ s, s < 40 → (match (kh_ds k)[s]? with | none => true | some d => (d.1 != 1) || ((k == 6 && s == 12 && d.2 == 11) || (k == 11 && s == 1 && d.2 == 6) || (k == 13 && s == 0 && d.2 == 6) || (k == 14 && s == 0 && d.2 == 6))) = true := by decide +kernel
theorem ds_len : ∀ k, k < 16 → (kh_ds k).length ≤ 40 := by decide +kernel
theorem ds_ref {k s : Nat} {d : Nat × Nat} (h : (kh_ds k)[s]? = some d) (h1 : d.1 = 1) : (k = 6 ∧ s = 12 ∧ d.2 = 11) ∨ (k = 11 ∧ s = 1 ∧ d.2 = 6) ∨ (k = 13 ∧ s = 0 ∧ d.2 = 6) ∨ (k = 14 ∧ s = 0 ∧ d.2 = 6) := by
  by_cases hk : k < 16
  · have hs : s < (kh_ds k).length := by
      obtain ⟨hs, -⟩ := List.getElem?_eq_some_iff.mp h
      exact hs
    have h2 := ds_key k hk s (by have := ds_len k hk; omega)
    rw [h] at h2
    simp only [h1, Bool.or_eq_true, Bool.and_eq_true, beq_iff_eq, bne_self_eq_false, Bool.false_eq_true, false_or] at h2
    omega
  · have e : kh_ds k = [] := by
      unfold kh_ds
      rw [if_neg (by omega), if_neg (by omega), if_neg (by omega), if_neg (by omega), if_neg (by omega), if_neg (by omega)]
    rw [e] at h
    simp at h
theorem kd_key : ∀ k, k < 61 → (decide ((kh_kd k).1 ≠ 4) || ((k == 1 && (kh_kd k).2.1 == 6) || (k == 2 && (kh_kd k).2.1 == 11) || (k == 3 && (kh_kd k).2.1 == 14) || (k == 4 && (kh_kd k).2.1 == 13))) = true := by decide +kernel
theorem kd_ref {k : Nat} (h : (kh_kd k).1 = 4) : (k = 1 ∧ (kh_kd k).2.1 = 6) ∨ (k = 2 ∧ (kh_kd k).2.1 = 11) ∨ (k = 3 ∧ (kh_kd k).2.1 = 14) ∨ (k = 4 ∧ (kh_kd k).2.1 = 13) := by
  by_cases hk : k < 61
  · have h2 := kd_key k hk
    simp only [h, ne_eq, not_true_eq_false, decide_false, Bool.false_or, Bool.or_eq_true, Bool.and_eq_true, beq_iff_eq] at h2
    omega
  · have e : kh_kd k = (1, 0, 0) := by
      unfold kh_kd
      rw [if_neg (by omega), if_neg (by omega), if_neg (by omega), if_neg (by omega), if_neg (by omega), if_neg (by omega), if_neg (by omega), if_neg (by omega), if_neg (by omega), if_neg (by omega), if_neg (by omega), if_neg (by omega), if_neg (by omega), if_neg (by omega), if_neg (by omega), if_neg (by omega), if_neg (by omega), if_neg (by omega), if_neg (by omega), if_neg (by omega), if_neg (by omega), if_neg (by omega)]
    rw [e] at h
    cases h
theorem ix_ok {x : Int32} {n m : Nat} (h : x = -1 ∨ ∃ j, j < n ∧ x = nI j) (hn : n ≤ 5000) (e : m = n) : x < 0 ∨ x.toNatClampNeg < m := by
  subst e
  rcases h with h | ⟨j, hj, h⟩
  · subst h; exact Or.inl (by decide)
  · subst h; exact Or.inr (by rw [nI_clamp (by omega)]; exact hj)
def adiff (m n : Nat) : Nat := if n ≤ m then m - n else n - m
theorem abs_c {m n : Nat} (hm : m < 2 ^ 30) (hn : n < 2 ^ 30) : (if 0 ≤ nI m - nI n then nI m - nI n else 0 - (nI m - nI n)) = nI (adiff m n) := by
  have h1 := pk_sub_toInt hm hn
  unfold adiff
  by_cases h : n ≤ m
  · rw [if_pos h, if_pos (by rw [i_le, h1]; show (0 : Int) ≤ _; omega), pk_sub h]
  · rw [if_neg h, if_neg (by rw [i_le, h1]; show ¬ (0 : Int) ≤ _; omega), ← pk_sub (show m ≤ n by omega)]
    grind
theorem abs_m {m n : Nat} (hm : m < 2 ^ 30) (hn : n < 2 ^ 30) : (if nI m ≤ nI n then nI n - nI m else nI m - nI n) = nI (adiff m n) := by
  unfold adiff
  by_cases h : m ≤ n
  · rw [if_pos ((nI_leI (by omega) (by omega)).mpr h), pk_sub h]
    by_cases e : n ≤ m
    · rw [if_pos e]; congr 1; omega
    · rw [if_neg e]
  · rw [if_neg (fun z => h ((nI_leI (by omega) (by omega)).mp z)), if_pos (by omega), pk_sub (by omega)]
theorem gsum_nI {f : Nat → Int32} : ∀ {p : Nat}, (∀ k, k < p → ∃ m, 1 ≤ m ∧ m ≤ 10 ∧ f k = nI m) → ∃ m, 5 ≤ m ∧ m ≤ 5 + 10 * p ∧ gsum f p = nI m
  | 0, _ => ⟨5, by omega, by omega, rfl⟩
  | p + 1, h => by
    obtain ⟨m, h1, h2, h3⟩ := gsum_nI (f := f) (p := p) (fun k hk => h k (by omega))
    obtain ⟨m2, h4, h5, h6⟩ := h p (by omega)
    refine ⟨m + m2, by omega, by omega, ?_⟩
    show gsum f p + f p = _
    rw [h3, h6, nI_add]
/-- from a booking's minute to the next one's -/
def dst (σ : kh_S) (P : Nat → Nat) (r : Nat) : Int32 := (60 : Int32) + gsum (rtk σ r) (P r)
def dN (σ : kh_S) (P : Nat → Nat) (r : Nat) : Nat := (dst σ P r).toNatClampNeg
def bmN (σ : kh_S) (b : Nat) : Nat := (σ 49 0 0 b).toNatClampNeg
def nearb (σ : kh_S) (P : Nat → Nat) (r n b : Nat) : Bool := decide (σ 48 0 0 b = nI r) && !decide (σ 50 0 0 b = 2) && decide (adiff (bmN σ b) n < dN σ P r)
section BOOK
variable {ρ σ τ : kh_S} {R G B : Nat} {P : Nat → Nat}
theorem ok_of (q : relC ρ σ R G B P) (g : good0 σ R G B P) : kh_ok ρ := by
  have h4 := g.R4
  have h30 := g.G30
  have hB := g.B30
  intro k i hi
  refine ⟨fun s d h1 h2 => ?_, fun h j => ?_⟩
  · rcases ds_ref h1 h2 with ⟨rfl, rfl, e⟩ | ⟨rfl, rfl, e⟩ | ⟨rfl, rfl, e⟩ | ⟨rfl, rfl, e⟩
    · rw [e, (q.r i (by rw [← q.n6 g]; exact hi)).2.2.2.2.2.2.2.1]
      refine ix_ok (n := G) ?_ (by omega) (q.n11 g)
      rcases g.p i (by rw [← q.n6 g]; exact hi) with ⟨-, x, hx, z, -⟩ | ⟨-, z⟩
      · exact Or.inr ⟨x, hx, z⟩
      · exact Or.inl z
    · rw [e, (q.g i (by rw [← q.n11 g]; exact hi)).2.1]
      obtain ⟨r, hr, z, -⟩ := g.g i (by rw [← q.n11 g]; exact hi)
      exact ix_ok (n := R) (Or.inr ⟨r, hr, z⟩) (by omega) (q.n6 g)
    · rw [e, (q.w i hi).1]
      refine ix_ok (n := R) ?_ (by omega) (q.n6 g)
      rcases (g.w i hi).2 with ⟨z, -⟩ | ⟨r, hr, z, -⟩
      · exact Or.inl z
      · exact Or.inr ⟨r, hr, z⟩
    · rw [e, (q.b i (by rw [← q.n14 g]; exact hi)).1]
      obtain ⟨⟨r, hr, z⟩, -⟩ := g.b i (by rw [← q.n14 g]; exact hi)
      exact ix_ok (n := R) (Or.inr ⟨r, hr, z⟩) (by omega) (q.n6 g)
  · rcases kd_ref h with ⟨rfl, e⟩ | ⟨rfl, e⟩ | ⟨rfl, e⟩ | ⟨rfl, e⟩
    · obtain rfl : i = 0 := by have : kh_n ρ 1 = 1 := rfl; omega
      rw [e, q.2.1.1 j]
      refine ix_ok (n := R) ?_ (by omega) (q.n6 g)
      split
      · exact Or.inr ⟨j, by assumption, rfl⟩
      · exact Or.inl rfl
    · obtain rfl : i = 0 := by have : kh_n ρ 2 = 1 := rfl; omega
      rw [e, q.2.1.2.1 j]
      refine ix_ok (n := G) ?_ (by omega) (q.n11 g)
      split
      · exact Or.inr ⟨j, by assumption, rfl⟩
      · exact Or.inl rfl
    · obtain rfl : i = 0 := by have : kh_n ρ 3 = 1 := rfl; omega
      rw [e, q.2.1.2.2.1 j]
      refine ix_ok (n := B) ?_ (by omega) (q.n14 g)
      split
      · exact Or.inr ⟨j, by assumption, rfl⟩
      · exact Or.inl rfl
    · obtain rfl : i = 0 := by have : kh_n ρ 4 = 1 := rfl; omega
      rw [e, q.2.1.2.2.2 j]
      refine ix_ok (n := 3) ?_ (by omega) rfl
      split
      · exact Or.inr ⟨j, by assumption, rfl⟩
      · exact Or.inl rfl
theorem dst_nI (g : good0 σ R G B P) {r : Nat} (hr : r < R) : dst σ P r = nI (dN σ P r) ∧ 65 ≤ dN σ P r ∧ dN σ P r ≤ 145 := by
  have h8 := (g.r r hr).2.1
  obtain ⟨m, h1, h2, h3⟩ := gsum_nI (f := rtk σ r) (p := P r) (fun k hk => ((g.r r hr).2.2.1 k hk).2)
  have e : dst σ P r = nI (60 + m) := by
    unfold dst
    rw [h3, show (60 : Int32) = nI 60 from rfl, nI_add]
  have e2 : dN σ P r = 60 + m := by unfold dN; rw [e, nI_clamp (by omega)]
  rw [e2]
  exact ⟨e, by omega, by omega⟩
theorem bm_nI (g : good0 σ R G B P) {b : Nat} (hb : b < B) : σ 49 0 0 b = nI (bmN σ b) ∧ bmN σ b ≤ 4940 := by
  obtain ⟨-, m, h1, h2⟩ := g.b b hb
  have e : bmN σ b = m := by unfold bmN; rw [h2, nI_clamp (by omega)]
  rw [e]
  exact ⟨h2, h1⟩
theorem c_dist (q : relC ρ σ R G B P) (g : good0 σ R G B P) {r : Nat} (hr : r < R) : f_X4_bookingDistance ρ (nI r) = some (dst σ P r) := by
  have h4 := g.R4
  unfold f_X4_bookingDistance
  rw [kp_gdT (q.i6 g hr), nI_clamp (by omega), (q.r r hr).2.2.2.1]
  rfl
/-- one step of each of the class's searches -/
theorem c_bk (q : relC ρ σ R G B P) (g : good0 σ R G B P) {b : Nat} (hb : b < B) : ρ 3 0 0 (nI b).toNatClampNeg = nI b ∧ kh_in (nI b) 30 = true ∧ kh_in (nI b) (kh_n ρ 14) = true ∧ ρ 14 0 b 0 = σ 48 0 0 b ∧ ρ 14 1 b 0 = σ 49 0 0 b ∧ ρ 14 2 b 0 = σ 50 0 0 b ∧ kh_in (σ 48 0 0 b) (kh_n ρ 6) = true := by
  have hB := g.B30
  obtain ⟨w0, w1, w2, w3⟩ := q.b b hb
  obtain ⟨⟨r, hr, z⟩, -⟩ := g.b b hb
  refine ⟨by rw [nI_clamp (by omega), q.2.1.2.2.1, if_pos hb], kp_in (by omega) (by omega), q.i14 g hb, w0, w1, w2, ?_⟩
  rw [z]
  exact q.i6 g hr
theorem c_near_step (q : relC ρ σ R G B P) (g : good0 σ R G B P) {r n b : Nat} (hr : r < R) (hn : n ≤ 10000) (hb : b < B) : f_X4_bookingTooNear_B2 ρ (nI r) (nI n) (nI b) = some (if nearb σ P r n b = true then .inr (.inl (nI b)) else .inl (nI (b + 1))) := by
  have hB := g.B30
  obtain ⟨b1, b2, b3, b4, b5, b6, b7⟩ := c_bk q g hb
  obtain ⟨d1, d2, d3⟩ := dst_nI g hr
  obtain ⟨m1, m2⟩ := bm_nI g hb
  unfold f_X4_bookingTooNear_B2 f_X4_bookingTooNear_L56
  rw [q.1.2.2.2.2.1, if_neg (nI_ge hb (by omega)), kp_gdT b2, b1, kp_gdT b3, nI_clamp (show b < 2 ^ 31 by omega), b4, kp_gdT b7, kp_gdT (q.i6 g hr), b5, b6, c_dist q g hr, kp_bd, m1, abs_c (by omega) (by omega), d1, nI_1]
  unfold nearb
  by_cases h1 : σ 48 0 0 b = nI r
  · rw [if_pos h1, decide_eq_true h1]
    by_cases h2 : σ 50 0 0 b = 2
    · rw [if_pos h2, decide_eq_true h2]; rfl
    · rw [if_neg h2, decide_eq_false h2]
      have ha : adiff (bmN σ b) n ≤ 20000 := by unfold adiff; split <;> omega
      by_cases h3 : adiff (bmN σ b) n < dN σ P r
      · rw [if_neg (nI_ge h3 (by omega)), decide_eq_true h3]; rfl
      · rw [if_pos (nI_le (by omega) (by omega)), decide_eq_false h3]; rfl
  · rw [if_neg h1, decide_eq_false h1]; rfl
theorem c_near_end (q : relC ρ σ R G B P) (g : good0 σ R G B P) (x y : Int32) : f_X4_bookingTooNear_B2 ρ x y (nI B) = some (.inr (.inr ())) := by
  have hB := g.B30
  unfold f_X4_bookingTooNear_B2
  rw [q.1.2.2.2.2.1, if_pos (nI_le (Nat.le_refl _) (by omega))]
theorem c_near0 (q : relC ρ σ R G B P) (g : good0 σ R G B P) {r n : Nat} (hr : r < R) (hn : n ≤ 10000) (h : anyb (nearb σ P r n) B = false) : f_X4_bookingTooNear ρ (nI r) (nI n) = some (-1) := by
  have hB := g.B30
  have hl : kh_lp (fun a : Int32 => f_X4_bookingTooNear_B2 ρ (nI r) (nI n) a) 9999 (0 : Int32) = some (.inr ()) := kp_lp B (fun j => nI j) (fun j hj => by rw [c_near_step q g hr hn hj, anyb_no h hj]; rfl) (c_near_end q g _ _) 9999 (by omega)
  unfold f_X4_bookingTooNear
  rw [hl]
  rfl
theorem c_near1 (q : relC ρ σ R G B P) (g : good0 σ R G B P) {r n : Nat} (hr : r < R) (hn : n ≤ 10000) {m : Nat} (hm : m < B) (h : nearb σ P r n m = true) (h2 : ∀ j, j < m → nearb σ P r n j = false) : f_X4_bookingTooNear ρ (nI r) (nI n) = some (nI m) := by
  have hB := g.B30
  have hl : kh_lp (fun a : Int32 => f_X4_bookingTooNear_B2 ρ (nI r) (nI n) a) 9999 (0 : Int32) = some (.inl (nI m)) := kp_lp m (fun j => nI j) (fun j hj => by rw [c_near_step q g hr hn (by omega), h2 j hj]; rfl) (by rw [c_near_step q g hr hn hm, h]; rfl) 9999 (by omega)
  unfold f_X4_bookingTooNear
  rw [hl]
  rfl
theorem m_canBook (g : good0 τ R G B P) {r n : Nat} (hr : r < R) (hn : n ≤ 10000) : f_X5_canBook τ (nI r) (nI n) = some (if anyb (nearb τ P r n) B = true then 0 else 1) := by
  have h4 := g.R4
  have hB := g.B30
  obtain ⟨d1, d2, d3⟩ := dst_nI g hr
  unfold f_X5_canBook
  rw [m_gapOf g hr, kp_bd]
  rw [show (60 : Int32) + gsum (rtk τ r) (P r) = nI (dN τ P r) from d1]
  have hl : kh_lp (fun a : Int32 × Int32 => f_X5_canBook_B15 τ (nI r) (nI n) (nI (dN τ P r)) a.1 a.2) 9999 ((1 : Int32), (0 : Int32)) = some (if anyb (nearb τ P r n) B = true then (0 : Int32) else 1) := by
   refine kp_lp B (fun k => (if anyb (nearb τ P r n) k = true then (0 : Int32) else 1, nI k)) (fun k hk => ?_) ?_ 9999 (by omega)
   · show f_X5_canBook_B15 τ (nI r) (nI n) (nI (dN τ P r)) (if anyb (nearb τ P r n) k = true then (0 : Int32) else 1) (nI k) = some (.inl (if (anyb (nearb τ P r n) k || nearb τ P r n k) = true then (0 : Int32) else 1, nI (k + 1)))
     obtain ⟨m1, m2⟩ := bm_nI g hk
     have ha : adiff (bmN τ k) n ≤ 20000 := by unfold adiff; split <;> omega
     have hx : ∀ c : Int32, f_X5_canBook_B15 τ (nI r) (nI n) (nI (dN τ P r)) c (nI k) = f_X5_canBook_L56 τ (nI r) (nI n) (nI (dN τ P r)) c (nI k) (nI (adiff (bmN τ k) n)) := by
       intro c
       unfold f_X5_canBook_B15
       rw [g.1.2.2.2.2.1, if_neg (nI_ge hk (by omega)), kp_gdT (kp_in (show k < 30 by omega) (by omega)), nI_clamp (show k < 2 ^ 31 by omega), m1, ← abs_m (show bmN τ k < 2 ^ 30 by omega) (show n < 2 ^ 30 by omega)]
       split <;> rfl
     rw [hx]
     unfold f_X5_canBook_L56 f_X5_canBook_L95 f_X5_canBook_L91 f_X5_canBook_L96
     rw [kp_gdT (kp_in (show k < 30 by omega) (by omega)), nI_clamp (show k < 2 ^ 31 by omega), nI_1]
     cases e : anyb (nearb τ P r n) k with
     | true => rfl
     | false =>
       rw [if_neg (by decide : ¬ (if false = true then (0 : Int32) else 1) = 0), Bool.false_or]
       unfold nearb
       by_cases h1 : τ 48 0 0 k = nI r
       · rw [if_pos h1, decide_eq_true h1]
         by_cases h2 : τ 50 0 0 k = 2
         · rw [if_pos h2, decide_eq_true h2]; rfl
         · rw [if_neg h2, decide_eq_false h2]
           by_cases h3 : adiff (bmN τ k) n < dN τ P r
           · rw [if_pos (nI_lt h3 (by omega)), decide_eq_true h3]; rfl
           · rw [if_neg (nI_nlt (by omega) (by omega)), decide_eq_false h3]; rfl
       · rw [if_neg h1, decide_eq_false h1]; rfl
   · show f_X5_canBook_B15 τ (nI r) (nI n) (nI (dN τ P r)) _ (nI B) = _
     unfold f_X5_canBook_B15
     rw [g.1.2.2.2.2.1, if_pos (nI_le (Nat.le_refl _) (by omega))]
  rw [hl, kp_bd]
  unfold f_X5_canBook_A15 f_X5_canBook_L104
  rw [kp_gdT kp_bi']
theorem nearb_eqv (h : eqv σ τ) (r n b : Nat) : nearb τ P r n b = nearb σ P r n b := by
  have e33 := h.1 33 (by omega) (by omega)
  have e48 := h.1 48 (by omega) (by omega)
  have e49 := h.1 49 (by omega) (by omega)
  have e50 := h.1 50 (by omega) (by omega)
  have w : rtk τ r = rtk σ r := by funext k; simp only [rtk, e33]
  unfold nearb dN dst bmN
  rw [e48, e49, e50, w]
theorem anyb_cong {c d : Nat → Bool} (h : ∀ k, c k = d k) (n : Nat) : anyb c n = anyb d n := by
  rw [show c = d from funext h]
end BOOK
