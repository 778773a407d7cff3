/-! what can be had from some things by a set of puzzles: rounds, and the least closed set (fb_ct and its first rows are the kit's, pasted) -/
def fb_ct (p : Nat → Bool) : Nat → Nat
  | 0 => 0
  | n + 1 => fb_ct p n + (if p n then 1 else 0)
theorem fb_ct_succ (p : Nat → Bool) (n : Nat) : fb_ct p (n + 1) = fb_ct p n + (if p n then 1 else 0) := rfl
theorem fb_ct_le (p : Nat → Bool) : ∀ n, fb_ct p n ≤ n
  | 0 => Nat.le_refl _
  | n + 1 => by
    have h := fb_ct_le p n
    rw [fb_ct_succ]
    split <;> omega
theorem fb_ct_sub {p q : Nat → Bool} : ∀ {n : Nat}, (∀ k, k < n → p k = true → q k = true) → fb_ct p n ≤ fb_ct q n
  | 0, _ => Nat.le_refl _
  | n + 1, h => by
    have h1 := fb_ct_sub (n := n) (p := p) (q := q) (fun k hk => h k (by omega))
    have h2 := h n (by omega)
    rw [fb_ct_succ, fb_ct_succ]
    cases hp : p n <;> cases hq : q n <;> simp_all <;> omega
theorem ct_lt {p q : Nat → Bool} : ∀ {n : Nat}, (∀ k, k < n → p k = true → q k = true) → (∃ k, k < n ∧ p k = false ∧ q k = true) → fb_ct p n < fb_ct q n
  | 0, _, h => by obtain ⟨k, hk, -⟩ := h; omega
  | n + 1, h, hx => by
    rw [fb_ct_succ, fb_ct_succ]
    have h1 := fb_ct_sub (n := n) (p := p) (q := q) (fun k hk => h k (by omega))
    have h2 := h n (by omega)
    obtain ⟨k, hk, hp, hq⟩ := hx
    by_cases e : k = n
    · subst e
      rw [hp, hq]
      simp
      omega
    · have h3 := ct_lt (n := n) (p := p) (q := q) (fun k hk => h k (by omega)) ⟨k, by omega, hp, hq⟩
      cases hp' : p n
      · cases hq' : q n <;> simp <;> omega
      · rw [h2 hp']; simp; omega
theorem ct_full {p : Nat → Bool} : ∀ {n : Nat}, n ≤ fb_ct p n → ∀ k, k < n → p k = true
  | 0, _, k, hk => by omega
  | n + 1, h, k, hk => by
    rw [fb_ct_succ] at h
    have h1 := fb_ct_le p n
    cases hp : p n with
    | false => rw [hp] at h; simp at h; omega
    | true =>
      rw [hp] at h
      by_cases e : k = n
      · rw [e]; exact hp
      · exact ct_full (n := n) (by simp at h; omega) k (by omega)
def rstep (S : Nat → Bool) (nd gv : Nat → Int32) (h : Int32) (k : Nat) : Int32 := if S k = true ∧ sv (nd k) h = true then h ||| gv k else h
def rpass (S : Nat → Bool) (nd gv : Nat → Int32) : Nat → Int32 → Int32
  | 0, h => h
  | k + 1, h => rstep S nd gv (rpass S nd gv k h) k
def rit (S : Nat → Bool) (nd gv : Nat → Int32) (P : Nat) : Nat → Int32 → Int32
  | 0, h => h
  | n + 1, h => rpass S nd gv P (rit S nd gv P n h)
def rch (S : Nat → Bool) (nd gv : Nat → Int32) (P : Nat) (h : Int32) : Int32 := rit S nd gv P P h
section RCH
variable {S : Nat → Bool} {nd gv : Nat → Int32} {P : Nat}
theorem rstep_ge (h : Int32) (k : Nat) : sb h (rstep S nd gv h k) := by
  unfold rstep
  split
  · exact sb_orl _ _
  · exact sb_rfl _
theorem rpass_ge (h : Int32) : ∀ k, sb h (rpass S nd gv k h)
  | 0 => sb_rfl _
  | k + 1 => sb_tr (rpass_ge h k) (rstep_ge _ _)
theorem rpass_mono (h : Int32) (k : Nat) : ∀ m, sb (rpass S nd gv k h) (rpass S nd gv (k + m) h)
  | 0 => sb_rfl _
  | m + 1 => sb_tr (rpass_mono h k m) (rstep_ge _ _)
theorem rpass_mono' (h : Int32) {k m : Nat} (hk : k ≤ m) : sb (rpass S nd gv k h) (rpass S nd gv m h) := by
  have := rpass_mono (S := S) (nd := nd) (gv := gv) h k (m - k)
  rw [show k + (m - k) = m by omega] at this
  exact this
def rclosed (S : Nat → Bool) (nd gv : Nat → Int32) (P : Nat) (c : Int32) : Prop := ∀ k, k < P → S k = true → sb (nd k) c → sb (gv k) c
theorem rpass_le {c : Int32} (hc : rclosed S nd gv P c) {h : Int32} (hh : sb h c) : ∀ k, k ≤ P → sb (rpass S nd gv k h) c
  | 0, _ => hh
  | k + 1, hk => by
    have ih := rpass_le hc hh k (by omega)
    show sb (rstep S nd gv (rpass S nd gv k h) k) c
    unfold rstep
    split
    · rename_i z
      exact sb_or ih (hc k (by omega) z.1 (sb_tr (sv_iff.mp z.2) ih))
    · exact ih
theorem rit_ge (h : Int32) : ∀ n, sb h (rit S nd gv P n h)
  | 0 => sb_rfl _
  | n + 1 => sb_tr (rit_ge h n) (rpass_ge _ P)
theorem rit_le {c : Int32} (hc : rclosed S nd gv P c) {h : Int32} (hh : sb h c) : ∀ n, sb (rit S nd gv P n h) c
  | 0 => hh
  | n + 1 => rpass_le hc (rit_le hc hh n) P (Nat.le_refl _)
theorem rpass_new {h : Int32} (hne : rpass S nd gv P h ≠ h) : ∃ k, k < P ∧ S k = true ∧ ¬ sb (gv k) h ∧ sb (gv k) (rpass S nd gv P h) := by
  refine Classical.byContradiction fun hn => hne ?_
  have key : ∀ k, k ≤ P → rpass S nd gv k h = h := by
    intro k
    induction k with
    | zero => intro _; rfl
    | succ k ih =>
      intro hk
      have ih := ih (by omega)
      show rstep S nd gv (rpass S nd gv k h) k = h
      rw [ih]
      unfold rstep
      split
      · rename_i z
        refine sb_self (Classical.byContradiction fun hs => hn ⟨k, by omega, z.1, hs, ?_⟩)
        have h1 : rpass S nd gv (k + 1) h = h ||| gv k := by
          show rstep S nd gv (rpass S nd gv k h) k = _
          rw [ih]; unfold rstep; rw [if_pos z]
        have h2 := rpass_mono' (S := S) (nd := nd) (gv := gv) h (show k + 1 ≤ P by omega)
        rw [h1] at h2
        exact sb_tr (sb_orr _ _) h2
      · rfl
  exact key P (Nat.le_refl _)
def rA (S : Nat → Bool) (gv : Nat → Int32) (x : Int32) (k : Nat) : Bool := S k && sv (gv k) x
theorem rA_iff {x : Int32} {k : Nat} : rA S gv x k = true ↔ S k = true ∧ sb (gv k) x := by
  unfold rA
  rw [Bool.and_eq_true, sv_iff]
theorem rit_prog (h : Int32) : ∀ n, rpass S nd gv P (rit S nd gv P n h) = rit S nd gv P n h ∨ n ≤ fb_ct (rA S gv (rit S nd gv P n h)) P
  | 0 => Or.inr (Nat.zero_le _)
  | n + 1 => by
    rcases rit_prog h n with h1 | h1
    · refine Or.inl ?_
      show rpass S nd gv P (rpass S nd gv P (rit S nd gv P n h)) = rpass S nd gv P (rit S nd gv P n h)
      rw [h1, h1]
    · by_cases e : rpass S nd gv P (rit S nd gv P n h) = rit S nd gv P n h
      · refine Or.inl ?_
        show rpass S nd gv P (rpass S nd gv P (rit S nd gv P n h)) = rpass S nd gv P (rit S nd gv P n h)
        rw [e, e]
      · obtain ⟨k, hk, hS, h2, h3⟩ := rpass_new e
        refine Or.inr ?_
        have h4 : fb_ct (rA S gv (rit S nd gv P n h)) P < fb_ct (rA S gv (rit S nd gv P (n + 1) h)) P := by
          refine ct_lt (fun j hj hp => ?_) ⟨k, hk, ?_, rA_iff.mpr ⟨hS, h3⟩⟩
          · have h5 := rA_iff.mp hp
            exact rA_iff.mpr ⟨h5.1, sb_tr h5.2 (rpass_ge _ P)⟩
          · cases e9 : rA S gv (rit S nd gv P n h) k with
            | false => rfl
            | true => exact absurd (rA_iff.mp e9).2 h2
        omega
theorem rpass_all {x : Int32} (h : ∀ k, k < P → sb (gv k) x) : ∀ k, k ≤ P → rpass S nd gv k x = x
  | 0, _ => rfl
  | k + 1, hk => by
    show rstep S nd gv (rpass S nd gv k x) k = x
    rw [rpass_all h k (by omega)]
    unfold rstep
    split
    · exact sb_self (h k (by omega))
    · rfl
theorem rch_fix (h : Int32) : rpass S nd gv P (rch S nd gv P h) = rch S nd gv P h := by
  rcases rit_prog (S := S) (nd := nd) (gv := gv) (P := P) h P with h1 | h1
  · exact h1
  · exact rpass_all (fun k hk => (rA_iff.mp (ct_full h1 k hk)).2) P (Nat.le_refl _)
theorem rch_ge (h : Int32) : sb h (rch S nd gv P h) := rit_ge h P
theorem fix_closed {x : Int32} (hx : rpass S nd gv P x = x) : rclosed S nd gv P x := by
  intro k hk hS hn
  have h1 : ∀ j, j ≤ P → rpass S nd gv j x = x := fun j hj => sb_anti (by
    have := rpass_mono' (S := S) (nd := nd) (gv := gv) x hj
    rw [hx] at this
    exact this) (rpass_ge x j)
  have h2 : rstep S nd gv (rpass S nd gv k x) k = x := h1 (k + 1) (by omega)
  rw [h1 k (by omega)] at h2
  unfold rstep at h2
  rw [if_pos ⟨hS, sv_iff.mpr hn⟩] at h2
  rw [← h2]
  exact sb_orr _ _
theorem rch_closed (h : Int32) : rclosed S nd gv P (rch S nd gv P h) := fix_closed (rch_fix h)
theorem rch_least {c h : Int32} (hc : rclosed S nd gv P c) (hh : sb h c) : sb (rch S nd gv P h) c := rit_le hc hh P
/-- the first round that changes nothing -/
theorem rit_stop (h : Int32) : ∃ N, N ≤ P ∧ (∀ j, j < N → rit S nd gv P (j + 1) h ≠ rit S nd gv P j h) ∧ rit S nd gv P (N + 1) h = rit S nd gv P N h ∧ rit S nd gv P N h = rch S nd gv P h := by
  have h0 : ∃ n, n ≤ P ∧ rit S nd gv P (n + 1) h = rit S nd gv P n h := ⟨P, Nat.le_refl _, rch_fix h⟩
  have hmin : ∀ n, (n ≤ P ∧ rit S nd gv P (n + 1) h = rit S nd gv P n h) → ∃ N, N ≤ P ∧ (∀ j, j < N → rit S nd gv P (j + 1) h ≠ rit S nd gv P j h) ∧ rit S nd gv P (N + 1) h = rit S nd gv P N h := by
    intro n
    induction n using Nat.strongRecOn with
    | ind n ih =>
      intro hn
      by_cases e : ∃ j, j < n ∧ rit S nd gv P (j + 1) h = rit S nd gv P j h
      · obtain ⟨j, hj, e⟩ := e
        exact ih j hj ⟨by omega, e⟩
      · exact ⟨n, hn.1, fun j hj h9 => e ⟨j, hj, h9⟩, hn.2⟩
  obtain ⟨n, hn⟩ := h0
  obtain ⟨N, h1, h2, h3⟩ := hmin n hn
  refine ⟨N, h1, h2, h3, ?_⟩
  have h4 : ∀ m, rit S nd gv P (N + m) h = rit S nd gv P N h := by
    intro m
    induction m with
    | zero => rfl
    | succ m ih =>
      show rpass S nd gv P (rit S nd gv P (N + m) h) = _
      rw [ih]
      exact h3
  have h5 := h4 (P - N)
  rw [show N + (P - N) = P by omega] at h5
  exact h5.symm
end RCH
theorem rstep_cong {S S' : Nat → Bool} {nd nd' gv gv' : Nat → Int32} {h : Int32} {k : Nat} (h1 : S k = S' k) (h2 : nd k = nd' k) (h3 : gv k = gv' k) : rstep S nd gv h k = rstep S' nd' gv' h k := by
  unfold rstep; rw [h1, h2, h3]
theorem rpass_cong {S S' : Nat → Bool} {nd nd' gv gv' : Nat → Int32} {P : Nat} (h1 : ∀ k, k < P → S k = S' k) (h2 : ∀ k, k < P → nd k = nd' k) (h3 : ∀ k, k < P → gv k = gv' k) (h : Int32) : ∀ k, k ≤ P → rpass S nd gv k h = rpass S' nd' gv' k h
  | 0, _ => rfl
  | k + 1, hk => by
    show rstep S nd gv (rpass S nd gv k h) k = rstep S' nd' gv' (rpass S' nd' gv' k h) k
    rw [rpass_cong h1 h2 h3 h k (by omega)]
    exact rstep_cong (h1 k (by omega)) (h2 k (by omega)) (h3 k (by omega))
theorem rit_cong {S S' : Nat → Bool} {nd nd' gv gv' : Nat → Int32} {P : Nat} (h1 : ∀ k, k < P → S k = S' k) (h2 : ∀ k, k < P → nd k = nd' k) (h3 : ∀ k, k < P → gv k = gv' k) (h : Int32) : ∀ n, rit S nd gv P n h = rit S' nd' gv' P n h
  | 0 => rfl
  | n + 1 => by
    show rpass S nd gv P (rit S nd gv P n h) = rpass S' nd' gv' P (rit S' nd' gv' P n h)
    rw [rit_cong h1 h2 h3 h n]
    exact rpass_cong h1 h2 h3 _ P (Nat.le_refl _)
theorem rch_cong {S S' : Nat → Bool} {nd nd' gv gv' : Nat → Int32} {P : Nat} (h1 : ∀ k, k < P → S k = S' k) (h2 : ∀ k, k < P → nd k = nd' k) (h3 : ∀ k, k < P → gv k = gv' k) (h : Int32) : rch S nd gv P h = rch S' nd' gv' P h := rit_cong h1 h2 h3 h P
theorem rch_mono {S S' : Nat → Bool} {nd gv : Nat → Int32} {P : Nat} (h1 : ∀ k, k < P → S k = true → S' k = true) {h h' : Int32} (hh : sb h h') : sb (rch S nd gv P h) (rch S' nd gv P h') :=
  rch_least (fun k hk hS hn => rch_closed h' k hk (h1 k hk hS) hn) (sb_tr hh (rch_ge h'))
