/-! the way of a group: two ways to find it -/
def cntb (s : Nat) : Nat := fb_ct (fun i => s.testBit i) 8
theorem c_bits (ρ : kh_S) : ∀ s, s < 256 → f_J6_bitCount_0f7a4 ρ (nI s) = some (nI (cntb s)) := by
  have h : ∀ s, s < 256 → f_J6_bitCount_0f7a4 (fun _ _ _ _ => 0) (nI s) = some (nI (cntb s)) := by decide +kernel
  exact h
theorem m_bits (τ : kh_S) : ∀ s, s < 256 → f_X5_count τ (nI s) = some (nI (cntb s)) := by
  have h : ∀ s, s < 256 → f_X5_count (fun _ _ _ _ => 0) (nI s) = some (nI (cntb s)) := by decide +kernel
  exact h
theorem cntb_le (s : Nat) : cntb s ≤ 8 := fb_ct_le _ 8
/-- the first of the least -/
def sel (Q : Nat → Bool) : Nat → Nat
  | 0 => 0
  | n + 1 => if 1 ≤ n ∧ Q n = true ∧ (sel Q n = 0 ∨ cntb n < cntb (sel Q n)) then n else sel Q n
theorem sel_spec (Q : Nat → Bool) : ∀ n, (sel Q n = 0 ∧ ∀ s, 1 ≤ s → s < n → Q s = false) ∨ (1 ≤ sel Q n ∧ sel Q n < n ∧ Q (sel Q n) = true ∧ ∀ s, 1 ≤ s → s < n → Q s = true → cntb (sel Q n) < cntb s ∨ (cntb (sel Q n) = cntb s ∧ sel Q n ≤ s))
  | 0 => Or.inl ⟨rfl, fun s h1 h2 => by omega⟩
  | n + 1 => by
    have ih := sel_spec Q n
    by_cases h : 1 ≤ n ∧ Q n = true ∧ (sel Q n = 0 ∨ cntb n < cntb (sel Q n))
    · have e : sel Q (n + 1) = n := if_pos h
      rw [e]
      refine Or.inr ⟨h.1, by omega, h.2.1, fun s h1 h2 h3 => ?_⟩
      by_cases e2 : s = n
      · subst e2; exact Or.inr ⟨rfl, Nat.le_refl _⟩
      · rcases ih with ⟨a, b⟩ | ⟨a, b, c, d⟩
        · rw [b s h1 (by omega)] at h3; cases h3
        · have h4 := h.2.2.resolve_left (by omega)
          rcases d s h1 (by omega) h3 with d | d
          · exact Or.inl (by omega)
          · exact Or.inl (by omega)
    · have e : sel Q (n + 1) = sel Q n := if_neg h
      rw [e]
      rcases ih with ⟨a, b⟩ | ⟨a, b, c, d⟩
      · refine Or.inl ⟨a, fun s h1 h2 => ?_⟩
        by_cases e2 : s = n
        · subst e2
          cases e3 : Q s with
          | false => rfl
          | true => exact absurd ⟨h1, e3, Or.inl a⟩ h
        · exact b s h1 (by omega)
      · refine Or.inr ⟨a, by omega, c, fun s h1 h2 h3 => ?_⟩
        by_cases e2 : s = n
        · subst e2
          by_cases h4 : cntb s < cntb (sel Q s)
          · exact absurd ⟨h1, h3, Or.inr h4⟩ h
          · rcases Nat.lt_or_ge (cntb (sel Q s)) (cntb s) with h5 | h5
            · exact Or.inl h5
            · exact Or.inr ⟨by omega, by omega⟩
        · exact d s h1 (by omega) h3
theorem toN (x : Int32) : nI x.toBitVec.toNat = x := by
  refine b_ext fun i hi => ?_
  rw [b_nI _ hi]
  rfl
theorem inP_nI {x : Int32} {p : Nat} (hp : p ≤ 8) (h : inP x p) : ∃ y, y < 2 ^ p ∧ x = nI y := by
  refine ⟨x.toBitVec.toNat, ?_, (toN x).symm⟩
  refine Nat.lt_pow_two_of_testBit _ fun i hi => ?_
  by_cases h32 : i < 32
  · cases e : x.toBitVec.toNat.testBit i with
    | false => rfl
    | true =>
      have h2 : bt x i = true := e
      have := h i h32 h2
      omega
  · exact Nat.testBit_lt_two_pow (Nat.lt_of_lt_of_le x.toBitVec.isLt (Nat.pow_le_pow_right (by omega) (by omega)))
theorem cntb_sub {s y : Nat} (h : sb (nI y) (nI s)) : cntb y ≤ cntb s := fb_ct_sub fun k hk h2 => by
  have := h k (by omega) (by rw [b_nI y (by omega)]; exact h2)
  rw [b_nI s (by omega)] at this
  exact this
theorem cntb_eq {s y : Nat} (hs : s < 256) (hy : y < 256) (h : sb (nI y) (nI s)) (hc : cntb s ≤ cntb y) : y = s := by
  have h1 : nI y = nI s := by
    refine sb_anti h fun i hi h2 => ?_
    have hi8 : i < 8 := by
      refine Nat.not_le.mp fun h8 => ?_
      rw [b_nI s hi, Nat.testBit_lt_two_pow (Nat.lt_of_lt_of_le hs (show 256 ≤ 2 ^ i from Nat.pow_le_pow_right (n := 2) (by omega) h8))] at h2
      cases h2
    cases e : bt (nI y) i with
    | true => rfl
    | false =>
      have : cntb y < cntb s := ct_lt (fun k hk h3 => by
        have := h k (by omega) (by rw [b_nI y (by omega)]; exact h3)
        rw [b_nI s (by omega)] at this
        exact this) ⟨i, hi8, by rw [← b_nI y hi]; exact e, by rw [← b_nI s hi]; exact h2⟩
      omega
  exact nI_inj h1 (by omega) (by omega)
section WAY
variable {S0 : Nat → Bool} {nd gv : Nat → Int32} {p : Nat} {h0 : Int32}
def dor (c : Nat → Bool) (dn : Int32) : Nat → Int32
  | 0 => dn
  | k + 1 => if c k = true then dor c dn k ||| ((1 : Int32) <<< (nI k &&& 31)) else dor c dn k
theorem bt_dor (c : Nat → Bool) (dn : Int32) : ∀ n, n ≤ 32 → ∀ i, i < 32 → bt (dor c dn n) i = (bt dn i || (decide (i < n) && c i))
  | 0, _, i, _ => by show bt dn i = _; simp
  | n + 1, hn, i, hi => by
    show bt (if c n = true then dor c dn n ||| _ else dor c dn n) i = _
    have ih := bt_dor c dn n (by omega) i hi
    by_cases h : c n = true
    · rw [if_pos h, b_or, ih, b_bit n (by omega) hi]
      by_cases e : i = n
      · subst e; simp [h]
      · have z : (i < n + 1) ↔ (i < n) := by omega
        simp only [e, z, decide_false, Bool.or_false]
    · rw [if_neg h, ih]
      by_cases e : i = n
      · subst e; simp [h]
      · have z : (i < n + 1) ↔ (i < n) := by omega
        simp only [z]
/-- what can be solved next of a set x, with dn done -/
def cnd (S0 : Nat → Bool) (nd gv : Nat → Int32) (p : Nat) (h0 x dn : Int32) (k : Nat) : Bool := bt x k && S0 k && sv (nd k) (h0 ||| gby (bt dn) gv p)
def dit (S0 : Nat → Bool) (nd gv : Nat → Int32) (p : Nat) (h0 x : Int32) : Nat → Int32
  | 0 => 0
  | j + 1 => dor (cnd S0 nd gv p h0 x (dit S0 nd gv p h0 x j)) (dit S0 nd gv p h0 x j) p
theorem dit_bt (hp : p ≤ 8) (x : Int32) (j : Nat) {i : Nat} (hi : i < 32) : bt (dit S0 nd gv p h0 x (j + 1)) i = (bt (dit S0 nd gv p h0 x j) i || (decide (i < p) && cnd S0 nd gv p h0 x (dit S0 nd gv p h0 x j) i)) := bt_dor _ _ p (by omega) i hi
theorem dit_in (hp : p ≤ 8) (x : Int32) : ∀ j i, i < 32 → bt (dit S0 nd gv p h0 x j) i = true → i < p ∧ bt x i = true ∧ S0 i = true
  | 0, i, _, h => by
    have h : bt 0 i = true := h
    rw [b_0] at h; cases h
  | j + 1, i, hi, h => by
    rw [dit_bt hp x j hi, Bool.or_eq_true] at h
    rcases h with h | h
    · exact dit_in hp x j i hi h
    · unfold cnd at h
      simp only [Bool.and_eq_true, decide_eq_true_eq] at h
      exact ⟨h.1, h.2.1.1, h.2.1.2⟩
theorem dit_up (hp : p ≤ 8) (x : Int32) (j : Nat) : sb (dit S0 nd gv p h0 x j) (dit S0 nd gv p h0 x (j + 1)) := fun i hi h => by
  rw [dit_bt hp x j hi, h]; rfl
theorem dit_mono (hp : p ≤ 8) (x : Int32) (j : Nat) : ∀ m, sb (dit S0 nd gv p h0 x j) (dit S0 nd gv p h0 x (j + m))
  | 0 => sb_rfl _
  | m + 1 => sb_tr (dit_mono hp x j m) (dit_up hp x (j + m))
theorem dit_prog (hp : p ≤ 8) (x : Int32) : ∀ n, dit S0 nd gv p h0 x (n + 1) = dit S0 nd gv p h0 x n ∨ n ≤ fb_ct (bt (dit S0 nd gv p h0 x n)) p
  | 0 => Or.inr (Nat.zero_le _)
  | n + 1 => by
    by_cases e : dit S0 nd gv p h0 x (n + 1) = dit S0 nd gv p h0 x n
    · refine Or.inl ?_
      show dor (cnd S0 nd gv p h0 x (dit S0 nd gv p h0 x (n + 1))) (dit S0 nd gv p h0 x (n + 1)) p = dit S0 nd gv p h0 x (n + 1)
      rw [e]
      exact e
    · have ih := (dit_prog hp x n).resolve_left e
      refine Or.inr ?_
      have hne : ∃ k, k < p ∧ bt (dit S0 nd gv p h0 x n) k = false ∧ bt (dit S0 nd gv p h0 x (n + 1)) k = true := by
        refine Classical.byContradiction fun hn => e (sb_anti (fun i hi h => ?_) (dit_up hp x n))
        cases e2 : bt (dit S0 nd gv p h0 x n) i with
        | true => rfl
        | false => exact absurd ⟨i, (dit_in hp x (n + 1) i hi h).1, e2, h⟩ hn
      have := ct_lt (p := bt (dit S0 nd gv p h0 x n)) (q := bt (dit S0 nd gv p h0 x (n + 1))) (n := p) (fun k hk h => dit_up hp x n k (by omega) h) hne
      omega
theorem dit_fix (hp : p ≤ 8) (x : Int32) : dit S0 nd gv p h0 x (p + 1) = dit S0 nd gv p h0 x p := by
  rcases dit_prog (S0 := S0) (nd := nd) (gv := gv) (h0 := h0) hp x p with h | h
  · exact h
  · refine sb_anti (fun i hi h2 => ?_) (dit_up hp x p)
    exact ct_full h i (dit_in hp x (p + 1) i hi h2).1
/-- the last of the rounds: the first that changes nothing -/
theorem dit_stop (hp : p ≤ 8) (x : Int32) : ∃ N, N ≤ p ∧ (∀ j, j < N → dit S0 nd gv p h0 x (j + 1) ≠ dit S0 nd gv p h0 x j) ∧ dit S0 nd gv p h0 x (N + 1) = dit S0 nd gv p h0 x N ∧ dit S0 nd gv p h0 x N = dit S0 nd gv p h0 x p := by
  obtain ⟨N, h1, h2, h3⟩ := least_of (p := fun n => dit S0 nd gv p h0 x (n + 1) = dit S0 nd gv p h0 x n) p (dit_fix hp x)
  refine ⟨N, h1, h3, h2, ?_⟩
  have h4 : ∀ m, dit S0 nd gv p h0 x (N + m) = dit S0 nd gv p h0 x N := by
    intro m
    induction m with
    | zero => rfl
    | succ m ih =>
      show dor (cnd S0 nd gv p h0 x (dit S0 nd gv p h0 x (N + m))) (dit S0 nd gv p h0 x (N + m)) p = _
      rw [ih]
      exact h2
  have h5 := h4 (p - N)
  rw [show N + (p - N) = p by omega] at h5
  exact h5.symm
def wayb (S0 : Nat → Bool) (nd gv : Nat → Int32) (p : Nat) (h0 x : Int32) : Bool := decide (dit S0 nd gv p h0 x p = x) && bt (h0 ||| gby (bt x) gv p) 0
def awb (nd gv : Nat → Int32) (p : Nat) (h0 op x : Int32) : Bool := sv x op && bt (rch (bt x) nd gv p h0) 0
theorem dit_rch (hp : p ≤ 8) (x : Int32) : ∀ j, sb (h0 ||| gby (bt (dit S0 nd gv p h0 x j)) gv p) (rch (bt x) nd gv p h0)
  | 0 => sb_or (rch_ge _) (gby_le fun k hk h => by
    have h : bt 0 k = true := h
    rw [b_0] at h; cases h)
  | j + 1 => by
    have ih := dit_rch hp x j
    refine sb_or (rch_ge _) (gby_le fun k hk h => ?_)
    rw [dit_bt hp x j (by omega), Bool.or_eq_true] at h
    rcases h with h | h
    · exact sb_tr (gby_ge (gv := gv) hk h) (sb_tr (sb_orr _ _) ih)
    · unfold cnd at h
      simp only [Bool.and_eq_true, decide_eq_true_eq] at h
      exact rch_closed h0 k hk h.2.1.1 (sb_tr (sv_iff.mp h.2.2) ih)
theorem way_aw (hp : p ≤ 8) {op x : Int32} (hop : ∀ k, k < 32 → bt op k = (decide (k < p) && S0 k)) (h : wayb S0 nd gv p h0 x = true) : awb nd gv p h0 op x = true := by
  unfold wayb at h
  simp only [Bool.and_eq_true, decide_eq_true_eq] at h
  unfold awb
  rw [Bool.and_eq_true, sv_iff]
  refine ⟨fun i hi h2 => ?_, ?_⟩
  · have h2' := h2
    rw [← h.1] at h2'
    obtain ⟨a, b, c⟩ := dit_in hp x p i hi h2'
    rw [hop i hi, decide_eq_true a, c]; rfl
  · have h3 := dit_rch (S0 := S0) (nd := nd) (gv := gv) (h0 := h0) hp x p
    rw [h.1] at h3
    exact h3 0 (by omega) h.2
theorem aw_way (hp : p ≤ 8) {op x : Int32} (hop : ∀ k, k < 32 → bt op k = (decide (k < p) && S0 k)) (h : awb nd gv p h0 op x = true) : wayb S0 nd gv p h0 (dit S0 nd gv p h0 x p) = true ∧ sb (dit S0 nd gv p h0 x p) x := by
  unfold awb at h
  rw [Bool.and_eq_true, sv_iff] at h
  have hsub : sb (dit S0 nd gv p h0 x p) x := fun i hi h2 => (dit_in hp x p i hi h2).2.1
  refine ⟨?_, hsub⟩
  have hcl : rclosed (bt x) nd gv p (h0 ||| gby (bt (dit S0 nd gv p h0 x p)) gv p) := by
    intro k hk hx hn
    have ho := h.1 k (by omega) hx
    rw [hop k (by omega), decide_eq_true hk, Bool.true_and] at ho
    have h2 : bt (dit S0 nd gv p h0 x (p + 1)) k = true := by
      rw [dit_bt hp x p (by omega), decide_eq_true hk]
      unfold cnd
      rw [hx, ho, sv_iff.mpr hn]
      simp
    rw [dit_fix hp x] at h2
    exact sb_tr (gby_ge (gv := gv) hk h2) (sb_orr _ _)
  have hall : ∀ j, j ≤ p → dit S0 nd gv p h0 (dit S0 nd gv p h0 x p) j = dit S0 nd gv p h0 x j := by
    intro j
    induction j with
    | zero => intro _; rfl
    | succ j ih =>
      intro hj
      refine b_ext fun i hi => ?_
      rw [dit_bt hp _ j hi, dit_bt hp x j hi, ih (by omega)]
      by_cases hip : i < p
      · rw [decide_eq_true hip, Bool.true_and, Bool.true_and]
        cases e : bt (dit S0 nd gv p h0 x j) i with
        | true => rfl
        | false =>
          rw [Bool.false_or, Bool.false_or]
          cases e2 : cnd S0 nd gv p h0 x (dit S0 nd gv p h0 x j) i with
          | true =>
            have h3 : bt (dit S0 nd gv p h0 x (j + 1)) i = true := by
              rw [dit_bt hp x j hi, decide_eq_true hip, e2, e]; rfl
            have h4 := dit_mono (S0 := S0) (nd := nd) (gv := gv) (h0 := h0) hp x (j + 1) (p - (j + 1)) i hi h3
            rw [show j + 1 + (p - (j + 1)) = p by omega] at h4
            unfold cnd at e2 ⊢
            simp only [Bool.and_eq_true] at e2
            rw [h4, e2.1.2, e2.2]
            rfl
          | false =>
            cases e3 : cnd S0 nd gv p h0 (dit S0 nd gv p h0 x p) (dit S0 nd gv p h0 x j) i with
            | false => rfl
            | true =>
              unfold cnd at e2 e3
              simp only [Bool.and_eq_true] at e3
              rw [hsub i hi e3.1.1, e3.1.2, e3.2] at e2
              cases e2
      · rw [decide_eq_false hip, Bool.false_and, Bool.false_and]
  unfold wayb
  rw [Bool.and_eq_true, decide_eq_true_eq]
  exact ⟨hall p (Nat.le_refl _), rch_least hcl (sb_orl _ _) 0 (by omega) h.2⟩
theorem sel_eq (hp : p ≤ 8) {op : Int32} (hop : ∀ k, k < 32 → bt op k = (decide (k < p) && S0 k)) (hh : bt h0 0 = false) : sel (fun s => awb nd gv p h0 op (nI s)) 256 = sel (fun s => wayb S0 nd gv p h0 (nI s)) (2 ^ p) ∧ (∀ s, 1 ≤ s → s < 256 → awb nd gv p h0 op (nI s) = true → 1 ≤ sel (fun s => awb nd gv p h0 op (nI s)) 256 ∧ sel (fun s => awb nd gv p h0 op (nI s)) 256 < 2 ^ p ∧ wayb S0 nd gv p h0 (nI (sel (fun s => awb nd gv p h0 op (nI s)) 256)) = true) := by
  have h256 := pow_p p hp
  have h1 := sel_spec (fun s => awb nd gv p h0 op (nI s)) 256
  have h2 := sel_spec (fun s => wayb S0 nd gv p h0 (nI s)) (2 ^ p)
  have key : ∀ s, 1 ≤ s → s < 256 → awb nd gv p h0 op (nI s) = true → ∃ y, 1 ≤ y ∧ y < 2 ^ p ∧ wayb S0 nd gv p h0 (nI y) = true ∧ sb (nI y) (nI s) := by
    intro s hs1 hs2 ha
    obtain ⟨a, b⟩ := aw_way hp hop ha
    obtain ⟨y, hy, ey⟩ := inP_nI (x := dit S0 nd gv p h0 (nI s) p) hp (fun i hi h => (dit_in hp _ p i hi h).1)
    rw [ey] at a b
    refine ⟨y, ?_, hy, a, b⟩
    rcases Nat.eq_zero_or_pos y with e | e
    · subst e
      unfold wayb at a
      simp only [Bool.and_eq_true, decide_eq_true_eq] at a
      have h3 : sb (h0 ||| gby (bt (nI 0)) gv p) h0 := sb_or (sb_rfl _) (gby_le fun k hk h => by
        rw [nI_0, b_0] at h; cases h)
      have := h3 0 (by omega) a.2
      rw [hh] at this
      cases this
    · exact e
  rcases h1 with ⟨a1, a2⟩ | ⟨a1, a2, a3, a4⟩
  · refine ⟨?_, fun s hs1 hs2 ha => ?_⟩
    · rcases h2 with ⟨b1, b2⟩ | ⟨b1, b2, b3, b4⟩
      · rw [a1, b1]
      · have := a2 _ b1 (by omega)
        rw [way_aw hp hop b3] at this
        cases this
    · have := a2 s hs1 hs2
      rw [ha] at this
      cases this
  · obtain ⟨y, y1, y2, y3, y4⟩ := key _ a1 a2 a3
    have ya := way_aw hp hop y3
    have c1 := cntb_sub y4
    have hy : y = sel (fun s => awb nd gv p h0 op (nI s)) 256 := by
      refine cntb_eq a2 (by omega) y4 ?_
      rcases a4 y y1 (by omega) ya with h | h
      · omega
      · omega
    rw [← hy] at a1 a2 a3 a4 ⊢
    refine ⟨?_, fun _ _ _ _ => ⟨y1, y2, y3⟩⟩
    rcases h2 with ⟨b1, b2⟩ | ⟨b1, b2, b3, b4⟩
    · have := b2 y y1 y2
      rw [y3] at this
      cases this
    · have h5 := a4 _ b1 (by omega) (way_aw hp hop b3)
      have h6 := b4 y y1 y2 y3
      omega
/-- a way begins with a puzzle that can be solved now -/
theorem way_first (hp : p ≤ 8) {x : Int32} (h : wayb S0 nd gv p h0 x = true) (hx : x ≠ 0) : ∃ k, k < p ∧ bt x k = true ∧ sv (nd k) h0 = true := by
  unfold wayb at h
  simp only [Bool.and_eq_true, decide_eq_true_eq] at h
  refine Classical.byContradiction fun hn => hx ?_
  have hz : ∀ j, dit S0 nd gv p h0 x j = 0 := by
    intro j
    induction j with
    | zero => rfl
    | succ j ih =>
      refine b_eq0.mpr fun i hi => ?_
      rw [dit_bt hp x j hi, ih, b_0, Bool.false_or]
      by_cases hip : i < p
      · rw [decide_eq_true hip, Bool.true_and]
        cases e : cnd S0 nd gv p h0 x 0 i with
        | false => rfl
        | true =>
          unfold cnd at e
          simp only [Bool.and_eq_true] at e
          have h3 : sb (h0 ||| gby (bt 0) gv p) h0 := sb_or (sb_rfl _) (gby_le fun k hk h => by
            rw [b_0] at h; cases h)
          exact absurd ⟨i, hip, e.1.1, sv_iff.mpr (sb_tr (sv_iff.mp e.2) h3)⟩ hn
      · rw [decide_eq_false hip, Bool.false_and]
  rw [← h.1]
  exact hz p
end WAY
