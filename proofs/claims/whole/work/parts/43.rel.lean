/-! the class's cells and the reference's: what relates them, and what holds of the reference's -/
def frC (ρ ρ' : kh_S) : Prop := ∀ k, 15 ≤ k → k < 60 → ρ' k = ρ k
def frM (τ τ' : kh_S) : Prop := ∀ k, (k < 15 ∨ 60 ≤ k) → τ' k = τ k
def kM (τ σ : kh_S) : Prop := ∀ k, 15 ≤ k → k < 60 → τ k = σ k
theorem frC_rfl (ρ : kh_S) : frC ρ ρ := fun _ _ _ => rfl
theorem frM_rfl (ρ : kh_S) : frM ρ ρ := fun _ _ => rfl
theorem frC_tr {a b c : kh_S} (h1 : frC a b) (h2 : frC b c) : frC a c := fun k p q => (h2 k p q).trans (h1 k p q)
theorem frM_tr {a b c : kh_S} (h1 : frM a b) (h2 : frM b c) : frM a c := fun k p => (h2 k p).trans (h1 k p)
theorem up_k {ρ : kh_S} {k s i j k' : Nat} {v : Int32} (h : k' ≠ k) : kh_up ρ k s i j v k' = ρ k' := by
  funext a b c
  exact kh_up_ne (fun z => h z.1)
theorem frC_up {a b : kh_S} {k s i j : Nat} {v : Int32} (h : frC a b) (hk : k < 15 ∨ 60 ≤ k) : frC a (kh_up b k s i j v) := fun k' p q => (up_k (by omega)).trans (h k' p q)
theorem frM_up {a b : kh_S} {k s i j : Nat} {v : Int32} (h : frM a b) (hk : 15 ≤ k ∧ k < 60) : frM a (kh_up b k s i j v) := fun k' p => (up_k (by omega)).trans (h k' p)
theorem kM_rfl (σ : kh_S) : kM σ σ := fun _ _ _ => rfl
theorem kM_up {τ σ : kh_S} (h : kM τ σ) (k s i j : Nat) {v w : Int32} (e : v = w) : kM (kh_up τ k s i j v) (kh_up σ k s i j w) := by
  subst e
  intro k' p q
  funext a b c
  simp only [kh_up, h k' p q]
theorem kM_fr {τ τ' σ : kh_S} (h : kM τ σ) (h2 : frC τ τ') : kM τ' σ := fun k p q => (h2 k p q).trans (h k p q)
theorem kM_all {τ σ : kh_S} (h : kM τ σ) : τ 15 = σ 15 ∧ τ 24 = σ 24 ∧ τ 25 = σ 25 ∧ τ 26 = σ 26 ∧ τ 27 = σ 27 ∧ τ 28 = σ 28 ∧ τ 29 = σ 29 ∧ τ 30 = σ 30 ∧ τ 31 = σ 31 ∧ τ 32 = σ 32 ∧ τ 33 = σ 33 ∧ τ 35 = σ 35 ∧ τ 36 = σ 36 ∧ τ 37 = σ 37 ∧ τ 38 = σ 38 ∧ τ 39 = σ 39 ∧ τ 40 = σ 40 ∧ τ 41 = σ 41 ∧ τ 42 = σ 42 ∧ τ 43 = σ 43 ∧ τ 44 = σ 44 ∧ τ 45 = σ 45 ∧ τ 46 = σ 46 ∧ τ 48 = σ 48 ∧ τ 49 = σ 49 ∧ τ 50 = σ 50 ∧ τ 51 = σ 51 :=
  ⟨h 15 (by omega) (by omega), h 24 (by omega) (by omega), h 25 (by omega) (by omega), h 26 (by omega) (by omega), h 27 (by omega) (by omega), h 28 (by omega) (by omega), h 29 (by omega) (by omega), h 30 (by omega) (by omega), h 31 (by omega) (by omega), h 32 (by omega) (by omega), h 33 (by omega) (by omega), h 35 (by omega) (by omega), h 36 (by omega) (by omega), h 37 (by omega) (by omega), h 38 (by omega) (by omega), h 39 (by omega) (by omega), h 40 (by omega) (by omega), h 41 (by omega) (by omega), h 42 (by omega) (by omega), h 43 (by omega) (by omega), h 44 (by omega) (by omega), h 45 (by omega) (by omega), h 46 (by omega) (by omega), h 48 (by omega) (by omega), h 49 (by omega) (by omega), h 50 (by omega) (by omega), h 51 (by omega) (by omega)⟩
def rnd (σ : kh_S) (r k : Nat) : Int32 := σ 30 0 0 (8 * r + k)
def rgv (σ : kh_S) (r k : Nat) : Int32 := σ 31 0 0 (8 * r + k)
def rpr (σ : kh_S) (r k : Nat) : Int32 := σ 32 0 0 (8 * r + k)
def rtk (σ : kh_S) (r k : Nat) : Int32 := σ 33 0 0 (8 * r + k)
/-- the puzzles of a room that are not out -/
def wk (σ : kh_S) (r k : Nat) : Bool := !outp (σ 15 2 0 0) (rpr σ r k)
def gsum (f : Nat → Int32) : Nat → Int32
  | 0 => 5
  | k + 1 => gsum f k + f k
def cS (ρ σ : kh_S) (R G B : Nat) : Prop := ρ 0 1 0 0 = nI R ∧ ρ 61 0 0 0 = nI R ∧ ρ 0 3 0 0 = nI G ∧ ρ 61 1 0 0 = nI G ∧ ρ 0 5 0 0 = nI B ∧ ρ 61 2 0 0 = nI B ∧ ρ 0 7 0 0 = σ 15 2 0 0 ∧ ρ 0 8 0 0 = σ 15 1 0 0
def cA (ρ : kh_S) (R G B : Nat) : Prop := (∀ j, ρ 1 0 0 j = if j < R then nI j else -1) ∧ (∀ j, ρ 2 0 0 j = if j < G then nI j else -1) ∧ (∀ j, ρ 3 0 0 j = if j < B then nI j else -1) ∧ ∀ j, ρ 4 0 0 j = if j < 3 then nI j else -1
def cR (ρ σ : kh_S) (P : Nat → Nat) (r : Nat) : Prop := ρ 6 0 r 0 = nI r ∧ ρ 6 1 r 0 = σ 24 0 0 r ∧ ρ 6 6 r 0 = nI (P r) ∧ ρ 6 7 r 0 = gsum (rtk σ r) (P r) ∧ ρ 6 8 r 0 = σ 26 0 0 r ∧ ρ 6 9 r 0 = σ 27 0 0 r ∧ ρ 6 10 r 0 = σ 28 0 0 r ∧ ρ 6 12 r 0 = σ 29 0 0 r ∧ ∀ k, k < P r → ρ 7 0 r k = rnd σ r k ∧ ρ 8 0 r k = rgv σ r k ∧ ρ 9 0 r k = rpr σ r k ∧ ρ 10 0 r k = rtk σ r k
def cG (ρ σ : kh_S) (g : Nat) : Prop := ρ 11 0 g 0 = nI g ∧ ρ 11 1 g 0 = σ 36 0 0 g ∧ ρ 11 2 g 0 = σ 39 0 0 g ∧ ρ 11 4 g 0 = σ 41 0 0 g ∧ ρ 11 5 g 0 = σ 40 0 0 g ∧ ρ 11 6 g 0 = σ 35 0 0 g ∧ ρ 11 7 g 0 = σ 38 0 0 g ∧ ρ 11 8 g 0 = σ 37 0 0 g ∧ ∀ k, k < 8 → ρ 12 0 g k = σ 42 0 0 (8 * g + k)
def cW (ρ σ : kh_S) (i : Nat) : Prop := ρ 13 0 i 0 = σ 43 0 0 i ∧ ρ 13 1 i 0 = σ 44 0 0 i ∧ ρ 13 2 i 0 = (if σ 43 0 0 i = -1 then -1 else σ 45 0 0 i) ∧ ∀ r, r < 4 → σ 43 0 0 i = nI r → ρ 6 11 r 0 = σ 46 0 0 i
def cB (ρ σ : kh_S) (b : Nat) : Prop := ρ 14 0 b 0 = σ 48 0 0 b ∧ ρ 14 1 b 0 = σ 49 0 0 b ∧ ρ 14 2 b 0 = σ 50 0 0 b ∧ ρ 14 3 b 0 = σ 51 0 0 b
def relC (ρ σ : kh_S) (R G B : Nat) (P : Nat → Nat) : Prop := cS ρ σ R G B ∧ cA ρ R G B ∧ (∀ r, r < R → cR ρ σ P r) ∧ (∀ g, g < G → cG ρ σ g) ∧ (∀ i, i < 3 → cW ρ σ i) ∧ ∀ b, b < B → cB ρ σ b
/-! what holds of the reference's cells -/
def gS (σ : kh_S) (R G B : Nat) : Prop := σ 15 3 0 0 = nI R ∧ R ≤ 4 ∧ σ 15 14 0 0 = nI G ∧ G ≤ 30 ∧ σ 15 27 0 0 = nI B ∧ B ≤ 30 ∧ ∃ n, n ≤ 5000 ∧ σ 15 1 0 0 = nI n
def inP (x : Int32) (p : Nat) : Prop := ∀ i, i < 32 → bt x i = true → i < p
def gR (σ : kh_S) (P : Nat → Nat) (r : Nat) : Prop := σ 25 0 0 r = nI (P r) ∧ P r ≤ 8 ∧ (∀ k, k < P r → (rpr σ r k = -1 ∨ ∃ q, q < 8 ∧ rpr σ r k = nI q) ∧ ∃ m, 1 ≤ m ∧ m ≤ 10 ∧ rtk σ r k = nI m) ∧ inP (σ 27 0 0 r) (P r) ∧ inP (σ 28 0 0 r) (P r)
def gN (σ : kh_S) (R : Nat) (P : Nat → Nat) : Prop := ∀ r, R ≤ r → r < 4 → P r = 0 ∧ σ 25 0 0 r = 0 ∧ σ 26 0 0 r = 0 ∧ σ 27 0 0 r = 0 ∧ σ 28 0 0 r = 0
def gP (σ : kh_S) (G r : Nat) : Prop := (σ 26 0 0 r = 1 ∧ ∃ g, g < G ∧ σ 29 0 0 r = nI g ∧ σ 36 0 0 g = nI r ∧ σ 35 0 0 g = 0) ∨ (σ 26 0 0 r ≠ 1 ∧ σ 29 0 0 r = -1)
def gG (σ : kh_S) (R : Nat) (P : Nat → Nat) (g : Nat) : Prop := ∃ r, r < R ∧ σ 36 0 0 g = nI r ∧ inP (σ 38 0 0 g) (P r) ∧ (σ 35 0 0 g = 0 → σ 26 0 0 r = 1 ∧ σ 29 0 0 r = nI g)
def gH (σ : kh_S) (G : Nat) : Prop := ∀ g, G ≤ g → g < 30 → σ 40 0 0 g = 0 ∧ σ 41 0 0 g = 0 ∧ ∀ k, k < 8 → σ 42 0 0 (8 * g + k) = 0
def gW (σ : kh_S) (R : Nat) (P : Nat → Nat) (i : Nat) : Prop := (σ 46 0 0 i = 0 ∨ σ 46 0 0 i = 1) ∧ ((σ 43 0 0 i = -1 ∧ σ 44 0 0 i = -1) ∨ ∃ r, r < R ∧ σ 43 0 0 i = nI r ∧ σ 26 0 0 r = 3 ∧ (∃ m, 1 ≤ m ∧ m ≤ 10 ∧ σ 45 0 0 i = nI m) ∧ (σ 44 0 0 i = -1 ∨ ∃ p, p < P r ∧ σ 44 0 0 i = nI p))
def gD (σ : kh_S) : Prop := ∀ i j r, i < 3 → j < 3 → r < 4 → i ≠ j → σ 43 0 0 i = nI r → σ 43 0 0 j ≠ nI r
def gB (σ : kh_S) (R b : Nat) : Prop := (∃ r, r < R ∧ σ 48 0 0 b = nI r) ∧ ∃ m, m ≤ 4940 ∧ σ 49 0 0 b = nI m
def good0 (σ : kh_S) (R G B : Nat) (P : Nat → Nat) : Prop := gS σ R G B ∧ (∀ r, r < R → gR σ P r) ∧ gN σ R P ∧ (∀ r, r < R → gP σ G r) ∧ (∀ g, g < G → gG σ R P g) ∧ gH σ G ∧ (∀ i, i < 3 → gW σ R P i) ∧ gD σ ∧ ∀ b, b < B → gB σ R b
/-- what holds of the group that plays in a room -/
def gQ1 (σ : kh_S) (P : Nat → Nat) (r : Nat) : Prop := σ 26 0 0 r = 1 → ∀ g, g < 30 → σ 29 0 0 r = nI g → bt (σ 37 0 0 g) 0 = false ∧ ∀ k, k < P r → bt (σ 38 0 0 g) k = true → sb (rgv σ r k) (σ 37 0 0 g)
def gQ2 (σ : kh_S) (P : Nat → Nat) (r : Nat) : Prop := σ 26 0 0 r = 1 → ∀ g, g < 30 → σ 29 0 0 r = nI g → bt (rch (wk σ r) (rnd σ r) (rgv σ r) (P r) (σ 37 0 0 g)) 0 = true
def good (σ : kh_S) (R G B : Nat) (P : Nat → Nat) : Prop := good0 σ R G B P ∧ ∀ r, r < R → gQ1 σ P r ∧ gQ2 σ P r
section REL
variable {ρ ρ' σ σ' : kh_S} {R G B : Nat} {P : Nat → Nat}
theorem good0.R4 (h : good0 σ R G B P) : R ≤ 4 := h.1.2.1
theorem good0.G30 (h : good0 σ R G B P) : G ≤ 30 := h.1.2.2.2.1
theorem good0.B30 (h : good0 σ R G B P) : B ≤ 30 := h.1.2.2.2.2.2.1
theorem good0.r (h : good0 σ R G B P) : ∀ r, r < R → gR σ P r := h.2.1
theorem good0.n (h : good0 σ R G B P) : gN σ R P := h.2.2.1
theorem good0.p (h : good0 σ R G B P) : ∀ r, r < R → gP σ G r := h.2.2.2.1
theorem good0.g (h : good0 σ R G B P) : ∀ g, g < G → gG σ R P g := h.2.2.2.2.1
theorem good0.h (h : good0 σ R G B P) : gH σ G := h.2.2.2.2.2.1
theorem good0.w (h : good0 σ R G B P) : ∀ i, i < 3 → gW σ R P i := h.2.2.2.2.2.2.1
theorem good0.d (h : good0 σ R G B P) : gD σ := h.2.2.2.2.2.2.2.1
theorem good0.b (h : good0 σ R G B P) : ∀ b, b < B → gB σ R b := h.2.2.2.2.2.2.2.2
theorem relC.r (h : relC ρ σ R G B P) : ∀ r, r < R → cR ρ σ P r := h.2.2.1
theorem relC.g (h : relC ρ σ R G B P) : ∀ g, g < G → cG ρ σ g := h.2.2.2.1
theorem relC.w (h : relC ρ σ R G B P) : ∀ i, i < 3 → cW ρ σ i := h.2.2.2.2.1
theorem relC.b (h : relC ρ σ R G B P) : ∀ b, b < B → cB ρ σ b := h.2.2.2.2.2
/-- the reference's cells, but what it threw and its row of ways -/
def eqv (σ σ' : kh_S) : Prop := (∀ k, 24 ≤ k → k < 52 → σ' k = σ k) ∧ ∀ s i j, s ≠ 0 → σ' 15 s i j = σ 15 s i j
theorem eqv_good0 (h : eqv σ σ') (q : good0 σ R G B P) : good0 σ' R G B P := by
  have e24 := h.1 24 (by omega) (by omega)
  have e25 := h.1 25 (by omega) (by omega)
  have e26 := h.1 26 (by omega) (by omega)
  have e27 := h.1 27 (by omega) (by omega)
  have e28 := h.1 28 (by omega) (by omega)
  have e29 := h.1 29 (by omega) (by omega)
  have e30 := h.1 30 (by omega) (by omega)
  have e31 := h.1 31 (by omega) (by omega)
  have e32 := h.1 32 (by omega) (by omega)
  have e33 := h.1 33 (by omega) (by omega)
  have e35 := h.1 35 (by omega) (by omega)
  have e36 := h.1 36 (by omega) (by omega)
  have e37 := h.1 37 (by omega) (by omega)
  have e38 := h.1 38 (by omega) (by omega)
  have e40 := h.1 40 (by omega) (by omega)
  have e41 := h.1 41 (by omega) (by omega)
  have e42 := h.1 42 (by omega) (by omega)
  have e43 := h.1 43 (by omega) (by omega)
  have e44 := h.1 44 (by omega) (by omega)
  have e45 := h.1 45 (by omega) (by omega)
  have e46 := h.1 46 (by omega) (by omega)
  have e48 := h.1 48 (by omega) (by omega)
  have e49 := h.1 49 (by omega) (by omega)
  have s1 := h.2 1 0 0 (by omega)
  have s2 := h.2 2 0 0 (by omega)
  have s3 := h.2 3 0 0 (by omega)
  have s14 := h.2 14 0 0 (by omega)
  have s27 := h.2 27 0 0 (by omega)
  have w : wk σ' = wk σ := by funext r k; simp only [wk, rpr, e32, s2]
  have w1 : rnd σ' = rnd σ := by funext r k; simp only [rnd, e30]
  have w2 : rgv σ' = rgv σ := by funext r k; simp only [rgv, e31]
  have w3 : rpr σ' = rpr σ := by funext r k; simp only [rpr, e32]
  have w4 : rtk σ' = rtk σ := by funext r k; simp only [rtk, e33]
  unfold good0 gS gR gN gP gG gH gW gD gB at q ⊢
  simp only [e25, e26, e27, e28, e29, e35, e36, e37, e38, e40, e41, e42, e43, e44, e45, e46, e48, e49, s1, s2, s3, s14, s27, w, w1, w2, w3, w4]
  exact q
theorem eqv_good (h : eqv σ σ') (q : good σ R G B P) : good σ' R G B P := by
  refine ⟨eqv_good0 h q.1, ?_⟩
  have e26 := h.1 26 (by omega) (by omega)
  have e29 := h.1 29 (by omega) (by omega)
  have e30 := h.1 30 (by omega) (by omega)
  have e31 := h.1 31 (by omega) (by omega)
  have e32 := h.1 32 (by omega) (by omega)
  have e37 := h.1 37 (by omega) (by omega)
  have e38 := h.1 38 (by omega) (by omega)
  have s2 := h.2 2 0 0 (by omega)
  have w : wk σ' = wk σ := by funext r k; simp only [wk, rpr, e32, s2]
  have w1 : rnd σ' = rnd σ := by funext r k; simp only [rnd, e30]
  have w2 : rgv σ' = rgv σ := by funext r k; simp only [rgv, e31]
  have q2 := q.2
  unfold gQ1 gQ2 at q2 ⊢
  simp only [e26, e29, e37, e38, w, w1, w2]
  exact q2
theorem eqv_relC (h : eqv σ σ') (q : relC ρ σ R G B P) : relC ρ σ' R G B P := by
  have e24 := h.1 24 (by omega) (by omega)
  have e26 := h.1 26 (by omega) (by omega)
  have e27 := h.1 27 (by omega) (by omega)
  have e28 := h.1 28 (by omega) (by omega)
  have e29 := h.1 29 (by omega) (by omega)
  have e30 := h.1 30 (by omega) (by omega)
  have e31 := h.1 31 (by omega) (by omega)
  have e32 := h.1 32 (by omega) (by omega)
  have e33 := h.1 33 (by omega) (by omega)
  have e35 := h.1 35 (by omega) (by omega)
  have e36 := h.1 36 (by omega) (by omega)
  have e37 := h.1 37 (by omega) (by omega)
  have e38 := h.1 38 (by omega) (by omega)
  have e39 := h.1 39 (by omega) (by omega)
  have e40 := h.1 40 (by omega) (by omega)
  have e41 := h.1 41 (by omega) (by omega)
  have e42 := h.1 42 (by omega) (by omega)
  have e43 := h.1 43 (by omega) (by omega)
  have e44 := h.1 44 (by omega) (by omega)
  have e45 := h.1 45 (by omega) (by omega)
  have e46 := h.1 46 (by omega) (by omega)
  have e48 := h.1 48 (by omega) (by omega)
  have e49 := h.1 49 (by omega) (by omega)
  have e50 := h.1 50 (by omega) (by omega)
  have e51 := h.1 51 (by omega) (by omega)
  have s1 := h.2 1 0 0 (by omega)
  have s2 := h.2 2 0 0 (by omega)
  have w1 : rnd σ' = rnd σ := by funext r k; simp only [rnd, e30]
  have w2 : rgv σ' = rgv σ := by funext r k; simp only [rgv, e31]
  have w3 : rpr σ' = rpr σ := by funext r k; simp only [rpr, e32]
  have w4 : rtk σ' = rtk σ := by funext r k; simp only [rtk, e33]
  unfold relC cS cA cR cG cW cB at q ⊢
  simp only [e24, e26, e27, e28, e29, e35, e36, e37, e38, e39, e40, e41, e42, e43, e44, e45, e46, e48, e49, e50, e51, s1, s2, w1, w2, w3, w4]
  exact q
theorem eqv_M {τ : kh_S} (h : kM τ σ) : eqv σ τ := ⟨fun k p q => h k (by omega) (by omega), fun s i j _ => by rw [h 15 (by omega) (by omega)]⟩
theorem eqv_thr (σ : kh_S) (v : Int32) : eqv σ (kh_up σ 15 0 0 0 v) := ⟨fun k p q => up_k (by omega), fun s i j h => kh_up_ne (fun z => h z.2.1)⟩
theorem eqv_tr {a b c : kh_S} (h1 : eqv a b) (h2 : eqv b c) : eqv a c := ⟨fun k p q => (h2.1 k p q).trans (h1.1 k p q), fun s i j h => (h2.2 s i j h).trans (h1.2 s i j h)⟩
theorem eqv_ways {a b : kh_S} (h : eqv a b) (s i j : Nat) (v : Int32) : eqv a (kh_up b 52 s i j v) := ⟨fun k p q => (up_k (by omega)).trans (h.1 k p q), fun s' i' j' h' => (kh_up_ne (fun z => by omega)).trans (h.2 s' i' j' h')⟩
/-- the class's cells alone -/
theorem relC_fr (h : ∀ k, (k < 15 ∨ k = 61) → ρ' k = ρ k) (q : relC ρ σ R G B P) : relC ρ' σ R G B P := by
  have e0 := h 0 (by omega)
  have e1 := h 1 (by omega)
  have e2 := h 2 (by omega)
  have e3 := h 3 (by omega)
  have e4 := h 4 (by omega)
  have e6 := h 6 (by omega)
  have e7 := h 7 (by omega)
  have e8 := h 8 (by omega)
  have e9 := h 9 (by omega)
  have e10 := h 10 (by omega)
  have e11 := h 11 (by omega)
  have e12 := h 12 (by omega)
  have e13 := h 13 (by omega)
  have e14 := h 14 (by omega)
  have e61 := h 61 (by omega)
  unfold relC cS cA cR cG cW cB at q ⊢
  simp only [e0, e1, e2, e3, e4, e6, e7, e8, e9, e10, e11, e12, e13, e14, e61]
  exact q
theorem relC_up60 (q : relC ρ σ R G B P) (s i j : Nat) (v : Int32) : relC (kh_up ρ 60 s i j v) σ R G B P := relC_fr (fun k h => up_k (by omega)) q
theorem relC_ways (q : relC ρ σ R G B P) (s i j : Nat) (v : Int32) : relC (kh_up ρ 5 s i j v) σ R G B P := by
  have e : ∀ k, k ≠ 5 → kh_up ρ 5 s i j v k = ρ k := fun k h => up_k h
  unfold relC cS cA cR cG cW cB at q ⊢
  simp only [e 0 (by decide), e 1 (by decide), e 2 (by decide), e 3 (by decide), e 4 (by decide), e 6 (by decide), e 7 (by decide), e 8 (by decide), e 9 (by decide), e 10 (by decide), e 11 (by decide), e 12 (by decide), e 13 (by decide), e 14 (by decide), e 61 (by decide)]
  exact q
/-! how many there are; looking up by number -/
theorem relC.n6 (q : relC ρ σ R G B P) (g : good0 σ R G B P) : kh_n ρ 6 = R := by
  have := g.R4
  show (ρ 61 0 0 0).toNatClampNeg = R
  rw [q.1.2.1, nI_clamp (by omega)]
theorem relC.n11 (q : relC ρ σ R G B P) (g : good0 σ R G B P) : kh_n ρ 11 = G := by
  have := g.G30
  show (ρ 61 1 0 0).toNatClampNeg = G
  rw [q.1.2.2.2.1, nI_clamp (by omega)]
theorem relC.n14 (q : relC ρ σ R G B P) (g : good0 σ R G B P) : kh_n ρ 14 = B := by
  have := g.B30
  show (ρ 61 2 0 0).toNatClampNeg = B
  rw [q.1.2.2.2.2.2.1, nI_clamp (by omega)]
theorem kh_n13 (ρ : kh_S) : kh_n ρ 13 = 3 := rfl
theorem relC.i6 (q : relC ρ σ R G B P) (g : good0 σ R G B P) {r : Nat} (h : r < R) : kh_in (nI r) (kh_n ρ 6) = true := by
  have := g.R4
  rw [q.n6 g]; exact kp_in h (by omega)
theorem relC.i11 (q : relC ρ σ R G B P) (g : good0 σ R G B P) {r : Nat} (h : r < G) : kh_in (nI r) (kh_n ρ 11) = true := by
  have := g.G30
  rw [q.n11 g]; exact kp_in h (by omega)
theorem relC.i14 (q : relC ρ σ R G B P) (g : good0 σ R G B P) {r : Nat} (h : r < B) : kh_in (nI r) (kh_n ρ 14) = true := by
  have := g.B30
  rw [q.n14 g]; exact kp_in h (by omega)
theorem relC.i13 {r : Nat} (h : r < 3) : kh_in (nI r) (kh_n ρ 13) = true := kp_in (n := 3) h (by omega)
theorem cl8 {r n : Nat} (h : r < n) (hn : n ≤ 5000) : (nI r).toNatClampNeg = r := nI_clamp (by omega)
theorem relC.kR (q : relC ρ σ R G B P) (g : good0 σ R G B P) {r : Nat} (h : r < R) : kp_R ρ r (P r) (rnd σ r) (rgv σ r) (rpr σ r) := by
  have c := q.r r h
  have d := g.r r h
  refine ⟨by rw [q.n6 g]; exact h, c.2.2.1, d.2.1, fun k hk => (c.2.2.2.2.2.2.2.2 k hk).1, fun k hk => (c.2.2.2.2.2.2.2.2 k hk).2.1, fun k hk => (c.2.2.2.2.2.2.2.2 k hk).2.2.1⟩
theorem c_rn0 (q : relC ρ σ R G B P) {x : Int32} (h : x < 0 ∨ nI R ≤ x) : f_X4_roomNumbered ρ x = some (.inl kh_E3) := by
  unfold f_X4_roomNumbered f_X4_roomNumbered_L12
  rw [q.1.1]
  by_cases h0 : x < 0
  · rw [if_pos h0]
  · rw [if_neg h0, if_neg (Int32.not_lt.mpr (h.resolve_left h0))]
theorem c_rn1 (q : relC ρ σ R G B P) (g : good0 σ R G B P) {r : Nat} (h : r < R) : f_X4_roomNumbered ρ (nI r) = some (.inr (nI r)) := by
  have := g.R4
  unfold f_X4_roomNumbered
  rw [q.1.1, if_neg (nI_pos (by omega)), if_pos (nI_lt h (by omega)), kp_gdT (kp_in (by omega) (by omega)), nI_clamp (by omega), q.2.1.1, if_pos h]
theorem c_gn0 (q : relC ρ σ R G B P) {x : Int32} (h : x < 0 ∨ nI G ≤ x) : f_X4_groupNumbered ρ x = some (.inl kh_E3) := by
  unfold f_X4_groupNumbered f_X4_groupNumbered_L12
  rw [q.1.2.2.1]
  by_cases h0 : x < 0
  · rw [if_pos h0]
  · rw [if_neg h0, if_neg (Int32.not_lt.mpr (h.resolve_left h0))]
theorem c_gn1 (q : relC ρ σ R G B P) (g : good0 σ R G B P) {r : Nat} (h : r < G) : f_X4_groupNumbered ρ (nI r) = some (.inr (nI r)) := by
  have := g.G30
  unfold f_X4_groupNumbered
  rw [q.1.2.2.1, if_neg (nI_pos (by omega)), if_pos (nI_lt h (by omega)), kp_gdT (kp_in (by omega) (by omega)), nI_clamp (by omega), q.2.1.2.1, if_pos h]
theorem c_bn0 (q : relC ρ σ R G B P) {x : Int32} (h : x < 0 ∨ nI B ≤ x) : f_X4_bookingNumbered ρ x = some (.inl kh_E3) := by
  unfold f_X4_bookingNumbered f_X4_bookingNumbered_L12
  rw [q.1.2.2.2.2.1]
  by_cases h0 : x < 0
  · rw [if_pos h0]
  · rw [if_neg h0, if_neg (Int32.not_lt.mpr (h.resolve_left h0))]
theorem c_bn1 (q : relC ρ σ R G B P) (g : good0 σ R G B P) {r : Nat} (h : r < B) : f_X4_bookingNumbered ρ (nI r) = some (.inr (nI r)) := by
  have := g.B30
  unfold f_X4_bookingNumbered
  rw [q.1.2.2.2.2.1, if_neg (nI_pos (by omega)), if_pos (nI_lt h (by omega)), kp_gdT (kp_in (by omega) (by omega)), nI_clamp (by omega), q.2.1.2.2.1, if_pos h]
theorem c_wn0 {x : Int32} (h : x < 0 ∨ nI 3 ≤ x) : f_X4_workerNumbered ρ x = some (.inl kh_E3) := by
  unfold f_X4_workerNumbered f_X4_workerNumbered_L9
  by_cases h0 : x < 0
  · rw [if_pos h0]
  · rw [if_neg h0, if_neg (show ¬ x < 3 from Int32.not_lt.mpr (h.resolve_left h0))]
theorem c_wn1 (q : relC ρ σ R G B P) {r : Nat} (h : r < 3) : f_X4_workerNumbered ρ (nI r) = some (.inr (nI r)) := by
  unfold f_X4_workerNumbered
  rw [if_neg (nI_pos (by omega)), if_pos (show nI r < 3 from nI_lt (b := 3) h (by omega)), kp_gdT (kp_in (by omega) (by omega)), nI_clamp (by omega), q.2.1.2.2.2, if_pos h]
end REL
/-! the reference's small methods -/
theorem i_lt {x y : Int32} : x < y ↔ x.toInt < y.toInt := Int32.lt_iff_toInt_lt
theorem i_le {x y : Int32} : x ≤ y ↔ x.toInt ≤ y.toInt := Int32.le_iff_toInt_le
theorem in_hi {n : Nat} (hn : n < 2 ^ 30) (x : Int32) : nI n - 1 < x ↔ nI n ≤ x := by
  have h := pk_sub_toInt (a := n) (b := 1) hn (by omega)
  have h2 : (nI n).toInt = (n : Int) := nI_toInt (by omega)
  rw [i_lt, i_le, show (1 : Int32) = nI 1 from rfl, h, h2]
  omega
theorem m_in (τ : kh_S) (x a b : Int32) : f_X5_in τ x a b = some (if x < a ∨ b < x then 0 else 1) := by
  unfold f_X5_in f_X5_in_L14 f_X5_in_L15
  by_cases h1 : x < a
  · simp [h1, kh_gd, kh_b]
  · by_cases h2 : b < x
    · simp [h1, h2, kh_gd, kh_b]
    · simp [h1, h2, kh_gd, kh_b]
theorem m_refused (τ : kh_S) (x : Int32) : f_X5_refused τ x = some (if x = 0 then 0 else 1, kh_up τ 15 0 0 0 x) := by
  unfold f_X5_refused f_X5_refused_L14
  by_cases h1 : x = 0
  · simp [h1, kh_gd, kh_b]
  · simp [h1, kh_gd, kh_b]
theorem m_ref0 (τ : kh_S) : f_X5_refused τ 0 = some (0, kh_up τ 15 0 0 0 0) := m_refused τ 0
theorem m_ref1 (τ : kh_S) : f_X5_refused τ 1 = some (1, kh_up τ 15 0 0 0 1) := m_refused τ 1
theorem m_ref2 (τ : kh_S) : f_X5_refused τ 2 = some (1, kh_up τ 15 0 0 0 2) := m_refused τ 2
theorem m_ref3 (τ : kh_S) : f_X5_refused τ 3 = some (1, kh_up τ 15 0 0 0 3) := m_refused τ 3
section MREL
variable {τ : kh_S} {R G B : Nat} {P : Nat → Nat}
theorem m_isRoom (g : good0 τ R G B P) (x : Int32) : f_X5_isRoom τ x = some (if x < 0 ∨ nI R ≤ x then 0 else 1) := by
  have := g.R4
  unfold f_X5_isRoom
  rw [g.1.1, m_in, kp_bd, kp_gdT kp_bi']
  simp only [in_hi (show R < 2 ^ 30 by omega) x]
theorem m_isGroup (g : good0 τ R G B P) (x : Int32) : f_X5_isGroup τ x = some (if x < 0 ∨ nI G ≤ x then 0 else 1) := by
  have := g.G30
  unfold f_X5_isGroup
  rw [g.1.2.2.1, m_in, kp_bd, kp_gdT kp_bi']
  simp only [in_hi (show G < 2 ^ 30 by omega) x]
theorem m_isBooking (g : good0 τ R G B P) (x : Int32) : f_X5_isBooking τ x = some (if x < 0 ∨ nI B ≤ x then 0 else 1) := by
  have := g.B30
  unfold f_X5_isBooking
  rw [g.1.2.2.2.2.1, m_in, kp_bd, kp_gdT kp_bi']
  simp only [in_hi (show B < 2 ^ 30 by omega) x]
theorem m_isCrew (τ : kh_S) (x : Int32) : f_X5_isCrew τ x = some (if x < 0 ∨ nI 3 ≤ x then 0 else 1) := by
  unfold f_X5_isCrew
  rw [m_in, kp_bd, kp_gdT kp_bi']
  simp only [show (2 : Int32) = nI 3 - 1 from rfl, in_hi (show 3 < 2 ^ 30 by omega) x]
end MREL
theorem no_ix {r n : Nat} (h : r < n) (hn : n < 2 ^ 31) : ¬ (nI r < 0 ∨ nI n ≤ nI r) := fun z => z.elim (nI_pos (by omega)) (nI_ge h hn)
theorem ix_cases (x : Int32) (n : Nat) (hn : n < 2 ^ 31) : (x < 0 ∨ nI n ≤ x) ∨ ∃ j : Nat, j < n ∧ x = nI j := by
  rcases pk_ix x hn with h | h | h
  · exact Or.inl (Or.inl h)
  · exact Or.inl (Or.inr h)
  · exact Or.inr h
/-! a call: what the class answers, what the reference answers, what holds behind both -/
def stepOK (FL FM : kh_S → Option (Int32 × kh_S)) (σ : kh_S) (R G B : Nat) (P : Nat → Nat) : Prop := ∃ (k b : Int32) (σ' : kh_S) (R' G' B' : Nat) (P' : Nat → Nat), good σ' R' G' B' P' ∧ (∀ ρ, relC ρ σ R G B P → ∃ ρ', FL ρ = some (k, ρ') ∧ relC ρ' σ' R' G' B' P' ∧ frC ρ ρ' ∧ (k = 0 → ρ' 60 0 0 0 = b)) ∧ ∀ τ, kM τ σ → ∃ τ', FM τ = some (b, τ') ∧ kM τ' σ' ∧ frM τ τ' ∧ τ' 15 0 0 0 = k
def stepV (FL : kh_S → Option (Int32 × kh_S)) (FM : kh_S → Option kh_S) (σ : kh_S) (R G B : Nat) (P : Nat → Nat) : Prop := ∃ (k : Int32) (σ' : kh_S) (R' G' B' : Nat) (P' : Nat → Nat), good σ' R' G' B' P' ∧ (∀ ρ, relC ρ σ R G B P → ∃ ρ', FL ρ = some (k, ρ') ∧ relC ρ' σ' R' G' B' P' ∧ frC ρ ρ') ∧ ∀ τ, kM τ σ → ∃ τ', FM τ = some τ' ∧ kM τ' σ' ∧ frM τ τ' ∧ τ' 15 0 0 0 = k
theorem up_at (ρ : kh_S) (k s i j : Nat) (v : Int32) : kh_up ρ k s i j v k s i j = v := kh_up_self ρ k s i j v
section STEP
variable {σ : kh_S} {R G B : Nat} {P : Nat → Nat} {FL FM : kh_S → Option (Int32 × kh_S)} {FV : kh_S → Option kh_S}
/-- a call that throws, or only asks -/
theorem stepE (g : good σ R G B P) (k b : Int32) (hk : k ≠ 0) (hC : ∀ ρ, relC ρ σ R G B P → FL ρ = some (k, ρ)) (hM : ∀ τ, good0 τ R G B P → kM τ σ → FM τ = some (b, kh_up τ 15 0 0 0 k)) : stepOK FL FM σ R G B P :=
  ⟨k, b, kh_up σ 15 0 0 0 k, R, G, B, P, eqv_good (eqv_thr σ k) g, fun ρ q => ⟨ρ, hC ρ q, eqv_relC (eqv_thr σ k) q, frC_rfl ρ, fun z => absurd z hk⟩, fun τ q => ⟨_, hM τ (eqv_good0 (eqv_M q) g.1) q, kM_up q 15 0 0 0 rfl, frM_up (frM_rfl τ) (by omega), up_at _ _ _ _ _ _⟩⟩
theorem stepQ (g : good σ R G B P) (b : Int32) (hC : ∀ ρ, relC ρ σ R G B P → FL ρ = some (0, kh_up ρ 60 0 0 (0 : Int32).toNatClampNeg b)) (hM : ∀ τ, good0 τ R G B P → kM τ σ → FM τ = some (b, kh_up τ 15 0 0 0 0)) : stepOK FL FM σ R G B P :=
  ⟨0, b, kh_up σ 15 0 0 0 0, R, G, B, P, eqv_good (eqv_thr σ 0) g, fun ρ q => ⟨_, hC ρ q, relC_up60 (eqv_relC (eqv_thr σ 0) q) _ _ _ _, frC_up (frC_rfl ρ) (by omega), fun _ => up_at _ _ _ _ _ _⟩, fun τ q => ⟨_, hM τ (eqv_good0 (eqv_M q) g.1) q, kM_up q 15 0 0 0 rfl, frM_up (frM_rfl τ) (by omega), up_at _ _ _ _ _ _⟩⟩
theorem stepVE (g : good σ R G B P) (k : Int32) (hC : ∀ ρ, relC ρ σ R G B P → FL ρ = some (k, ρ)) (hM : ∀ τ, good0 τ R G B P → kM τ σ → FV τ = some (kh_up τ 15 0 0 0 k)) : stepV FL FV σ R G B P :=
  ⟨k, kh_up σ 15 0 0 0 k, R, G, B, P, eqv_good (eqv_thr σ k) g, fun ρ q => ⟨ρ, hC ρ q, eqv_relC (eqv_thr σ k) q, frC_rfl ρ⟩, fun τ q => ⟨_, hM τ (eqv_good0 (eqv_M q) g.1) q, kM_up q 15 0 0 0 rfl, frM_up (frM_rfl τ) (by omega), up_at _ _ _ _ _ _⟩⟩
/-- a call that changes something -/
theorem stepG {σ' : kh_S} {R' G' B' : Nat} {P' : Nat → Nat} (g : good σ R G B P) (g' : good σ' R' G' B' P') (s0 : σ' 15 0 0 0 = 0) (b : Int32) (hC : ∀ ρ, relC ρ (kh_up σ 15 0 0 0 0) R G B P → ∃ ρ', FL ρ = some (0, kh_up ρ' 60 0 0 (0 : Int32).toNatClampNeg b) ∧ relC ρ' σ' R' G' B' P' ∧ frC ρ ρ') (hM : ∀ τ, good0 τ R G B P → kM τ σ → ∃ τ', FM τ = some (b, τ') ∧ kM τ' σ' ∧ frM τ τ') : stepOK FL FM σ R G B P := by
  refine ⟨0, b, σ', R', G', B', P', g', fun ρ q => ?_, fun τ q => ?_⟩
  · obtain ⟨ρ', h1, h2, h3⟩ := hC ρ (eqv_relC (eqv_thr σ 0) q)
    exact ⟨_, h1, relC_up60 h2 _ _ _ _, frC_up h3 (by omega), fun _ => up_at _ _ _ _ _ _⟩
  · obtain ⟨τ', h1, h2, h3⟩ := hM τ (eqv_good0 (eqv_M q) g.1) q
    exact ⟨τ', h1, h2, h3, by rw [h2 15 (by omega) (by omega)]; exact s0⟩
theorem stepGV {σ' : kh_S} {R' G' B' : Nat} {P' : Nat → Nat} (g : good σ R G B P) (g' : good σ' R' G' B' P') (s0 : σ' 15 0 0 0 = 0) (hC : ∀ ρ, relC ρ (kh_up σ 15 0 0 0 0) R G B P → ∃ ρ', FL ρ = some (0, ρ') ∧ relC ρ' σ' R' G' B' P' ∧ frC ρ ρ') (hM : ∀ τ, good0 τ R G B P → kM τ σ → ∃ τ', FV τ = some τ' ∧ kM τ' σ' ∧ frM τ τ') : stepV FL FV σ R G B P := by
  refine ⟨0, σ', R', G', B', P', g', fun ρ q => ?_, fun τ q => ?_⟩
  · obtain ⟨ρ', h1, h2, h3⟩ := hC ρ (eqv_relC (eqv_thr σ 0) q)
    exact ⟨_, h1, h2, h3⟩
  · obtain ⟨τ', h1, h2, h3⟩ := hM τ (eqv_good0 (eqv_M q) g.1) q
    exact ⟨τ', h1, h2, h3, by rw [h2 15 (by omega) (by omega)]; exact s0⟩
end STEP
