/-! come -/
def dueb (σ : kh_S) (r b : Nat) : Bool := decide (σ 48 0 0 b = nI r) && decide (σ 50 0 0 b = 0) && !decide (σ 15 1 0 0 < σ 49 0 0 b)
def keptb (σ : kh_S) (P : Nat → Nat) (r b : Nat) : Bool := decide (σ 48 0 0 b = nI r) && decide (σ 50 0 0 b = 0) && !decide (dst σ P r ≤ σ 49 0 0 b - σ 15 1 0 0)
theorem eqv_w {σ τ : kh_S} (h : eqv σ τ) (r : Nat) : wk τ r = wk σ r ∧ rnd τ r = rnd σ r ∧ rgv τ r = rgv σ r ∧ rtk τ r = rtk σ r := by
  have e30 := h.1 30 (by omega) (by omega)
  have e31 := h.1 31 (by omega) (by omega)
  have e32 := h.1 32 (by omega) (by omega)
  have e33 := h.1 33 (by omega) (by omega)
  have s2 := h.2 2 0 0 (by omega)
  exact ⟨by funext k; simp only [wk, rpr, e32, s2], by funext k; simp only [rnd, e30], by funext k; simp only [rgv, e31], by funext k; simp only [rtk, e33]⟩
theorem dueb_eqv {σ τ : kh_S} (h : eqv σ τ) (r b : Nat) : dueb τ r b = dueb σ r b := by
  have e48 := h.1 48 (by omega) (by omega)
  have e49 := h.1 49 (by omega) (by omega)
  have e50 := h.1 50 (by omega) (by omega)
  have s1 := h.2 1 0 0 (by omega)
  unfold dueb
  rw [e48, e49, e50, s1]
theorem keptb_eqv {σ τ : kh_S} (h : eqv σ τ) (P : Nat → Nat) (r b : Nat) : keptb τ P r b = keptb σ P r b := by
  have e48 := h.1 48 (by omega) (by omega)
  have e49 := h.1 49 (by omega) (by omega)
  have e50 := h.1 50 (by omega) (by omega)
  have s1 := h.2 1 0 0 (by omega)
  unfold keptb dst
  rw [e48, e49, e50, s1, (eqv_w h r).2.2.2]
def cmA (σ : kh_S) (G r : Nat) (held : Int32) : kh_S := kh_up (kh_up (kh_up (kh_up (kh_up (kh_up σ 15 14 0 0 (nI (G + 1))) 35 0 0 G 0) 36 0 0 G (nI r)) 38 0 0 G (σ 28 0 0 r)) 37 0 0 G held) 39 0 0 G (σ 15 1 0 0)
def cmB (d : Option Nat) (σ : kh_S) (G : Nat) : kh_S := match d with
  | none => σ
  | some m => kh_up (kh_up σ 50 0 0 m 1) 51 0 0 m (nI G)
def cm (d : Option Nat) (σ : kh_S) (G r : Nat) (held : Int32) : kh_S := kh_up (kh_up (cmB d (cmA σ G r held) G) 26 0 0 r 1) 29 0 0 r (nI G)
def dco (d : Option Nat) : Int32 := match d with
  | none => -1
  | some m => nI m
def heldA (σ : kh_S) (P : Nat → Nat) (r : Nat) : Int32 := σ 24 0 0 r ||| gby (bt (σ 28 0 0 r)) (rgv σ r) (P r)
theorem gby_ge {S : Nat → Bool} {gv : Nat → Int32} : ∀ {p k : Nat}, k < p → S k = true → sb (gv k) (gby S gv p)
  | p + 1, k, hk, h => by
    show sb (gv k) (if S p = true then gby S gv p ||| gv p else gby S gv p)
    by_cases e : k = p
    · subst e
      rw [if_pos h]; exact sb_orr _ _
    · have ih := gby_ge (gv := gv) (p := p) (k := k) (by omega) h
      split
      · exact sb_tr ih (sb_orl _ _)
      · exact ih
section COME
variable {ρ σ τ : kh_S} {R G B : Nat} {P : Nat → Nat}
theorem good_50 {σ' : kh_S} (h : ∀ k, k ≠ 50 → k ≠ 51 → σ' k = σ k) (q : good σ R G B P) : good σ' R G B P := by
  have e15 := h 15 (by omega) (by omega)
  have e25 := h 25 (by omega) (by omega)
  have e26 := h 26 (by omega) (by omega)
  have e27 := h 27 (by omega) (by omega)
  have e28 := h 28 (by omega) (by omega)
  have e29 := h 29 (by omega) (by omega)
  have e30 := h 30 (by omega) (by omega)
  have e31 := h 31 (by omega) (by omega)
  have e32 := h 32 (by omega) (by omega)
  have e33 := h 33 (by omega) (by omega)
  have e35 := h 35 (by omega) (by omega)
  have e36 := h 36 (by omega) (by omega)
  have e37 := h 37 (by omega) (by omega)
  have e38 := h 38 (by omega) (by omega)
  have e40 := h 40 (by omega) (by omega)
  have e41 := h 41 (by omega) (by omega)
  have e42 := h 42 (by omega) (by omega)
  have e43 := h 43 (by omega) (by omega)
  have e44 := h 44 (by omega) (by omega)
  have e45 := h 45 (by omega) (by omega)
  have e46 := h 46 (by omega) (by omega)
  have e48 := h 48 (by omega) (by omega)
  have e49 := h 49 (by omega) (by omega)
  have w : wk σ' = wk σ := by funext r k; simp only [wk, rpr, e32, e15]
  have w1 : rnd σ' = rnd σ := by funext r k; simp only [rnd, e30]
  have w2 : rgv σ' = rgv σ := by funext r k; simp only [rgv, e31]
  have w3 : rpr σ' = rpr σ := by funext r k; simp only [rpr, e32]
  have w4 : rtk σ' = rtk σ := by funext r k; simp only [rtk, e33]
  unfold good good0 gS gR gN gP gG gH gW gD gB gQ1 gQ2 at q ⊢
  simp only [e15, e25, e26, e27, e28, e29, e35, e36, e37, e38, e40, e41, e42, e43, e44, e45, e46, e48, e49, w, w1, w2, w3, w4]
  exact q
theorem cm_ne (d : Option Nat) (σ : kh_S) (G r : Nat) (held : Int32) {k : Nat} (h1 : k ≠ 50) (h2 : k ≠ 51) : cm d σ G r held k = cm none σ G r held k := by
  cases d with
  | none => rfl
  | some m =>
    by_cases e29 : k = 29
    · subst e29; funext s i j; simp [cm, cmB, up_rd]
    by_cases e26 : k = 26
    · subst e26; funext s i j; simp [cm, cmB, up_rd]
    unfold cm cmB
    dsimp only
    rw [up_k e29, up_k e26, up_k h2, up_k h1, up_k e29, up_k e26]
theorem cm_36 (d : Option Nat) (σ : kh_S) (G r : Nat) (held : Int32) : cm d σ G r held 36 0 0 G = nI r := by
  rw [cm_ne d _ _ _ _ (by omega) (by omega)]; simp [cm, cmB, cmA, up_rd]
theorem cm_35 (d : Option Nat) (σ : kh_S) (G r : Nat) (held : Int32) : cm d σ G r held 35 0 0 G = 0 := by
  rw [cm_ne d _ _ _ _ (by omega) (by omega)]; simp [cm, cmB, cmA, up_rd]
theorem cm_37 (d : Option Nat) (σ : kh_S) (G r : Nat) (held : Int32) : cm d σ G r held 37 0 0 G = held := by
  rw [cm_ne d _ _ _ _ (by omega) (by omega)]; simp [cm, cmB, cmA, up_rd]
theorem cm_thr (d : Option Nat) (σ : kh_S) (G r : Nat) (held : Int32) : cm d σ G r held 15 0 0 0 = σ 15 0 0 0 := by
  rw [cm_ne d _ _ _ _ (by omega) (by omega)]; simp [cm, cmB, cmA, up_rd]
theorem good0_cm (g : good0 σ R G B P) {r : Nat} (hr : r < R) (hG : G < 30) (h26 : σ 26 0 0 r = 0) (held : Int32) : good0 (cm none σ G r held) R (G + 1) B P := by
  have h4 := g.R4
  have h8 := (g.r r hr).2.1
  refine ⟨?_, fun r' hr' => ?_, fun r' h1 h2 => ?_, fun r' hr' => ?_, fun g' hg' => ?_, ?_, fun j hj => ?_, ?_, fun b hb => ?_⟩
  · obtain ⟨a1, a2, a3, a4, a5, a6, a7⟩ := g.1
    refine ⟨?_, a2, ?_, by omega, ?_, a6, ?_⟩
    · simpa [cm, cmB, cmA, up_rd] using a1
    · simp [cm, cmB, cmA, up_rd]
    · simpa [cm, cmB, cmA, up_rd] using a5
    · simpa [cm, cmB, cmA, up_rd] using a7
  · simpa [gR, cm, cmB, cmA, up_rd, rpr_up, rtk_up] using g.r r' hr'
  · have e : ¬ r' = r := by omega
    simpa [cm, cmB, cmA, up_rd, e] using g.n r' h1 h2
  · by_cases e : r' = r
    · subst e
      refine Or.inl ⟨?_, G, by omega, ?_, ?_, ?_⟩
      · simp [cm, cmB, cmA, up_rd]
      · simp [cm, cmB, cmA, up_rd]
      · simp [cm, cmB, cmA, up_rd]
      · simp [cm, cmB, cmA, up_rd]
    · rcases g.p r' hr' with ⟨a1, g', hg', a2, a3, a4⟩ | a
      · have e2 : ¬ g' = G := by omega
        refine Or.inl ⟨?_, g', by omega, ?_, ?_, ?_⟩
        · simpa [cm, cmB, cmA, up_rd, e] using a1
        · simpa [cm, cmB, cmA, up_rd, e] using a2
        · simpa [cm, cmB, cmA, up_rd, e2] using a3
        · simpa [cm, cmB, cmA, up_rd, e2] using a4
      · refine Or.inr ?_
        simpa [cm, cmB, cmA, up_rd, e] using a
  · by_cases e : g' = G
    · subst e
      refine ⟨r, hr, ?_, ?_, fun _ => ⟨?_, ?_⟩⟩
      · simp [cm, cmB, cmA, up_rd]
      · simpa [cm, cmB, cmA, up_rd] using (g.r r hr).2.2.2.2
      · simp [cm, cmB, cmA, up_rd]
      · simp [cm, cmB, cmA, up_rd]
    · obtain ⟨r', hr', a1, a2, a3⟩ := g.g g' (by omega)
      refine ⟨r', hr', ?_, ?_, fun h => ?_⟩
      · simpa [cm, cmB, cmA, up_rd, e] using a1
      · simpa [cm, cmB, cmA, up_rd, e] using a2
      · have h' : σ 35 0 0 g' = 0 := by simpa [cm, cmB, cmA, up_rd, e] using h
        obtain ⟨b1, b2⟩ := a3 h'
        have e2 : ¬ r' = r := by
          intro e2; subst e2
          rw [h26] at b1
          exact absurd b1 (by decide)
        refine ⟨?_, ?_⟩
        · simpa [cm, cmB, cmA, up_rd, e2] using b1
        · simpa [cm, cmB, cmA, up_rd, e2] using b2
  · intro g' h1 h2
    have h := g.h g' (by omega) h2
    simpa [cm, cmB, cmA, up_rd] using h
  · obtain ⟨a0, a⟩ := g.w j hj
    refine ⟨by simpa [cm, cmB, cmA, up_rd] using a0, ?_⟩
    rcases a with a | ⟨r', hr', b1, b2, b3, b4⟩
    · refine Or.inl ?_
      simpa [cm, cmB, cmA, up_rd] using a
    · have e2 : ¬ r' = r := by
        intro e2; subst e2
        rw [h26] at b2
        exact absurd b2 (by decide)
      refine Or.inr ⟨r', hr', ?_, ?_, ?_, ?_⟩
      · simpa [cm, cmB, cmA, up_rd] using b1
      · simpa [cm, cmB, cmA, up_rd, e2] using b2
      · simpa [cm, cmB, cmA, up_rd] using b3
      · simpa [cm, cmB, cmA, up_rd] using b4
  · simpa [gD, cm, cmB, cmA, up_rd] using g.d
  · simpa [gB, cm, cmB, cmA, up_rd] using g.b b hb
theorem cm_w (σ : kh_S) (G r : Nat) (held : Int32) (r' : Nat) : wk (cm none σ G r held) r' = wk σ r' ∧ rnd (cm none σ G r held) r' = rnd σ r' ∧ rgv (cm none σ G r held) r' = rgv σ r' := by
  refine ⟨?_, ?_, ?_⟩
  · funext k
    simp [wk, cm, cmB, cmA, up_rd, rpr_up]
  · simp [cm, cmB, cmA, rnd_up]
  · simp [cm, cmB, cmA, rgv_up]
theorem gQ_cm (gg : good σ R G B P) {r : Nat} (hr : r < R) (hG : G < 30) (h26 : σ 26 0 0 r = 0) (hx : bt (rch (wk σ r) (rnd σ r) (rgv σ r) (P r) (σ 24 0 0 r)) 0 = true) {r' : Nat} (hr' : r' < R) (hb : r' = r → bt (heldA σ P r) 0 = false) : gQ1 (cm none σ G r (heldA σ P r)) P r' ∧ gQ2 (cm none σ G r (heldA σ P r)) P r' := by
  have g := gg.1
  obtain ⟨w, w1, w2⟩ := cm_w σ G r (heldA σ P r) r'
  by_cases e : r' = r
  · subst e
    have h29 : ∀ g', g' < 30 → cm none σ G r' (heldA σ P r') 29 0 0 r' = nI g' → g' = G := by
      intro g' hg' h2
      have h2 : nI G = nI g' := by simpa [cm, cmB, cmA, up_rd] using h2
      exact (nI_inj h2 (by omega) (by omega)).symm
    refine ⟨fun h1 g' hg' h2 => ?_, fun h1 g' hg' h2 => ?_⟩
    · obtain rfl := h29 g' hg' h2
      have e38 : cm none σ g' r' (heldA σ P r') 38 0 0 g' = σ 28 0 0 r' := by simp [cm, cmB, cmA, up_rd]
      rw [cm_37, w2, e38]
      refine ⟨hb rfl, fun k hk hb => ?_⟩
      exact sb_tr (gby_ge (gv := rgv σ r') hk hb) (sb_orr _ _)
    · obtain rfl := h29 g' hg' h2
      rw [cm_37, w, w1, w2]
      exact rch_mono (fun _ _ h => h) (sb_orl _ _) 0 (by omega) hx
  · obtain ⟨q1, q2⟩ := gg.2 r' hr'
    have key : ∀ g', g' < 30 → cm none σ G r (heldA σ P r) 26 0 0 r' = 1 → cm none σ G r (heldA σ P r) 29 0 0 r' = nI g' → σ 26 0 0 r' = 1 ∧ σ 29 0 0 r' = nI g' ∧ ¬ g' = G := by
      intro g' hg' h1 h2
      have h1 : σ 26 0 0 r' = 1 := by simpa [cm, cmB, cmA, up_rd, e] using h1
      have h2 : σ 29 0 0 r' = nI g' := by simpa [cm, cmB, cmA, up_rd, e] using h2
      refine ⟨h1, h2, fun z => ?_⟩
      rcases g.p r' hr' with ⟨-, g2, hg2, b1, -⟩ | ⟨b, -⟩
      · have := nI_inj (h2.symm.trans b1) (by omega) (by omega)
        omega
      · exact b h1
    refine ⟨fun h1 g' hg' h2 => ?_, fun h1 g' hg' h2 => ?_⟩
    · obtain ⟨k1, k2, k3⟩ := key g' hg' h1 h2
      have c := q1 k1 g' hg' k2
      rw [w2]
      simpa [cm, cmB, cmA, up_rd, k3] using c
    · obtain ⟨k1, k2, k3⟩ := key g' hg' h1 h2
      have c := q2 k1 g' hg' k2
      rw [w, w1, w2]
      simpa [cm, cmB, cmA, up_rd, k3] using c
theorem rd_mkG {n : Nat} (e : kh_n ρ 11 = n) (a pl ar so he : Int32) (k s i j : Nat) : kh_mkG ρ a pl ar so he k s i j = if i = n ∧ 11 ≤ k ∧ k ≤ 12 then (if k = 11 then (if s = 0 then a else if s = 1 then pl else if s = 2 then ar else if s = 7 then so else if s = 8 then he else 0) else 0) else if k = 61 ∧ s = 1 ∧ i = 0 ∧ j = 0 then ρ 61 1 0 0 + 1 else ρ k s i j := by
  unfold kh_mkG
  rw [e]
def clA (ρ : kh_S) (G r : Nat) (now so he : Int32) : kh_S := kh_up (kh_up (kh_up (kh_up (kh_mkG ρ (nI G) (nI r) now so he) 2 0 0 G (nI G)) 0 3 0 0 (nI (G + 1))) 6 8 r 0 1) 6 12 r 0 (nI G)
def clB (d : Option Nat) (ρ : kh_S) (G : Nat) : kh_S := match d with
  | none => ρ
  | some m => kh_up (kh_up ρ 14 2 m 0 1) 14 3 m 0 (nI G)
theorem relC_cmA (q : relC ρ σ R G B P) (g : good0 σ R G B P) {r : Nat} (hr : r < R) (hG : G < 30) (held : Int32) : relC (clA ρ G r (σ 15 1 0 0) (σ 28 0 0 r) held) (cm none σ G r held) R (G + 1) B P := by
  have e11 := q.n11 g
  refine ⟨?_, ?_, fun r' hr' => ?_, fun g' hg' => ?_, fun j hj => ?_, fun b hb => ?_⟩
  · obtain ⟨a1, a2, a3, a4, a5, a6, a7, a8⟩ := q.1
    refine ⟨?_, ?_, ?_, ?_, ?_, ?_, ?_, ?_⟩
    · simpa [clA, up_rd, rd_mkG e11] using a1
    · simpa [clA, up_rd, rd_mkG e11] using a2
    · simp [clA, up_rd]
    · simp [clA, up_rd, rd_mkG e11, a4, nI_1]
    · simpa [clA, up_rd, rd_mkG e11] using a5
    · simpa [clA, up_rd, rd_mkG e11] using a6
    · simpa [clA, cm, cmB, cmA, up_rd, rd_mkG e11] using a7
    · simpa [clA, cm, cmB, cmA, up_rd, rd_mkG e11] using a8
  · obtain ⟨a1, a2, a3, a4⟩ := q.2.1
    refine ⟨fun j => ?_, fun j => ?_, fun j => ?_, fun j => ?_⟩
    · simpa [clA, up_rd, rd_mkG e11] using a1 j
    · by_cases e : j = G
      · subst e; simp [clA, up_rd]
      · have h := a2 j
        have z : (j < G + 1) ↔ (j < G) := by omega
        simp only [z]
        simpa [clA, up_rd, rd_mkG e11, e] using h
    · simpa [clA, up_rd, rd_mkG e11] using a3 j
    · simpa [clA, up_rd, rd_mkG e11] using a4 j
  · obtain ⟨c0, c1, c6, c7, c8, c9, c10, c12, ck⟩ := q.r r' hr'
    refine ⟨?_, ?_, ?_, ?_, ?_, ?_, ?_, ?_, fun k hk => ?_⟩
    · simpa [clA, up_rd, rd_mkG e11] using c0
    · simpa [clA, cm, cmB, cmA, up_rd, rd_mkG e11] using c1
    · simpa [clA, up_rd, rd_mkG e11] using c6
    · simpa [clA, cm, cmB, cmA, up_rd, rd_mkG e11, rtk_up] using c7
    · by_cases e : r' = r
      · subst e; simp [clA, cm, cmB, cmA, up_rd]
      · simpa [clA, cm, cmB, cmA, up_rd, rd_mkG e11, e] using c8
    · simpa [clA, cm, cmB, cmA, up_rd, rd_mkG e11] using c9
    · simpa [clA, cm, cmB, cmA, up_rd, rd_mkG e11] using c10
    · by_cases e : r' = r
      · subst e; simp [clA, cm, cmB, cmA, up_rd]
      · simpa [clA, cm, cmB, cmA, up_rd, rd_mkG e11, e] using c12
    · simpa [clA, cm, cmB, cmA, up_rd, rd_mkG e11, rnd_up, rgv_up, rpr_up, rtk_up] using ck k hk
  · by_cases e : g' = G
    · subst e
      have h := g.h g' (Nat.le_refl _) hG
      refine ⟨?_, ?_, ?_, ?_, ?_, ?_, ?_, ?_, fun k hk => ?_⟩
      · simp [clA, up_rd, rd_mkG e11]
      · simp [clA, cm, cmB, cmA, up_rd, rd_mkG e11]
      · simp [clA, cm, cmB, cmA, up_rd, rd_mkG e11]
      · simp [clA, cm, cmB, cmA, up_rd, rd_mkG e11, h.2.1]
      · simp [clA, cm, cmB, cmA, up_rd, rd_mkG e11, h.1]
      · simp [clA, cm, cmB, cmA, up_rd, rd_mkG e11]
      · simp [clA, cm, cmB, cmA, up_rd, rd_mkG e11]
      · simp [clA, cm, cmB, cmA, up_rd, rd_mkG e11]
      · simp [clA, cm, cmB, cmA, up_rd, rd_mkG e11, h.2.2 k hk]
    · simpa [cG, clA, cm, cmB, cmA, up_rd, rd_mkG e11, e] using q.g g' (by omega)
  · simpa [cW, clA, cm, cmB, cmA, up_rd, rd_mkG e11] using q.w j hj
  · simpa [cB, clA, cm, cmB, cmA, up_rd, rd_mkG e11] using q.b b hb
theorem relC_cm (d : Option Nat) {held : Int32} {r : Nat} (q : relC ρ (cm none σ G r held) R (G + 1) B P) : relC (clB d ρ G) (cm d σ G r held) R (G + 1) B P := by
  cases d with
  | none => exact q
  | some m =>
    have key : ∀ k, k ≠ 50 → k ≠ 51 → cm (some m) σ G r held k = cm none σ G r held k := fun k h1 h2 => cm_ne (some m) σ G r held h1 h2
    have e50 : ∀ i, cm (some m) σ G r held 50 0 0 i = if i = m then 1 else cm none σ G r held 50 0 0 i := fun i => by simp [cm, cmB, cmA, up_rd]
    have e51 : ∀ i, cm (some m) σ G r held 51 0 0 i = if i = m then nI G else cm none σ G r held 51 0 0 i := fun i => by simp [cm, cmB, cmA, up_rd]
    generalize cm (some m) σ G r held = σ2 at key e50 e51 ⊢
    generalize cm none σ G r held = σ1 at q key e50 e51
    have w : ∀ r, rtk σ2 r = rtk σ1 r := fun r => by funext k; simp only [rtk, key 33 (by omega) (by omega)]
    have w1 : ∀ r, rnd σ2 r = rnd σ1 r := fun r => by funext k; simp only [rnd, key 30 (by omega) (by omega)]
    have w2 : ∀ r, rgv σ2 r = rgv σ1 r := fun r => by funext k; simp only [rgv, key 31 (by omega) (by omega)]
    have w3 : ∀ r, rpr σ2 r = rpr σ1 r := fun r => by funext k; simp only [rpr, key 32 (by omega) (by omega)]
    refine ⟨?_, ?_, fun r' hr' => ?_, fun g' hg' => ?_, fun j hj => ?_, fun b hb => ?_⟩
    · have h := q.1
      unfold cS at h ⊢
      rw [key 15 (by omega) (by omega)]
      simpa [clB, up_rd] using h
    · simpa [cA, clB, up_rd] using q.2.1
    · have h := q.r r' hr'
      unfold cR at h ⊢
      rw [key 24 (by omega) (by omega), key 26 (by omega) (by omega), key 27 (by omega) (by omega), key 28 (by omega) (by omega), key 29 (by omega) (by omega), w, w1, w2, w3]
      simpa [clB, up_rd] using h
    · have h := q.g g' hg'
      unfold cG at h ⊢
      rw [key 35 (by omega) (by omega), key 36 (by omega) (by omega), key 37 (by omega) (by omega), key 38 (by omega) (by omega), key 39 (by omega) (by omega), key 40 (by omega) (by omega), key 41 (by omega) (by omega), key 42 (by omega) (by omega)]
      simpa [clB, up_rd] using h
    · have h := q.w j hj
      unfold cW at h ⊢
      rw [key 43 (by omega) (by omega), key 44 (by omega) (by omega), key 45 (by omega) (by omega), key 46 (by omega) (by omega)]
      simpa [clB, up_rd] using h
    · obtain ⟨b0, b1, b2, b3⟩ := q.b b hb
      refine ⟨?_, ?_, ?_, ?_⟩
      · rw [key 48 (by omega) (by omega)]; simpa [clB, up_rd] using b0
      · rw [key 49 (by omega) (by omega)]; simpa [clB, up_rd] using b1
      · rw [e50]
        by_cases e : b = m
        · subst e; simp [clB, up_rd]
        · simpa [clB, up_rd, e] using b2
      · rw [e51]
        by_cases e : b = m
        · subst e; simp [clB, up_rd]
        · simpa [clB, up_rd, e] using b3
end COME
