/-! pure rows: evaluation, loops, bits (the family of bt, b_ext .. is the kit's, pasted) -/
theorem kp_bd {α β : Type} {a : α} {f : α → Option β} : kh_bd (some a) f = f a := rfl
theorem kp_bd2 {α β γ : Type} {a : α} {b : β} {f : α → β → Option γ} : kh_bd2 (some (a, b)) f = f a b := rfl
theorem kp_gd {α : Type} {x : Option α} : kh_gd true x = x := rfl
theorem kp_gdT {α : Type} {b : Bool} {x : Option α} (h : b = true) : kh_gd b x = x := by rw [h]; rfl
theorem kp_bxl {ε α β : Type} {e : ε} {g : ε → Option β} {f : α → Option β} : kh_bx (some (.inl e)) g f = g e := rfl
theorem kp_bxr {ε α β : Type} {a : α} {g : ε → Option β} {f : α → Option β} : kh_bx (some (.inr a)) g f = f a := rfl
theorem kp_bdE {α β : Type} {x : Option α} {a : α} {f : α → Option β} (h : x = some a) : kh_bd x f = f a := by rw [h]; rfl
theorem kp_bd2E {α β γ : Type} {x : Option (α × β)} {a : α} {b : β} {f : α → β → Option γ} (h : x = some (a, b)) : kh_bd2 x f = f a b := by rw [h]; rfl
theorem kp_b0 : kh_b 0 = true := by decide
theorem kp_b1 : kh_b 1 = true := by decide
theorem kp_bi {p : Prop} [Decidable p] : kh_b (if p then 1 else 0) = true := by split <;> decide
theorem kp_bi' {p : Prop} [Decidable p] : kh_b (if p then 0 else 1) = true := by split <;> decide
theorem kp_lp {α β : Type} {f : α → Option (α ⊕ β)} {b : β} : ∀ (N : Nat) (st : Nat → α), (∀ j, j < N → f (st j) = some (.inl (st (j + 1)))) → f (st N) = some (.inr b) → ∀ n, N < n → kh_lp f n (st 0) = some b
  | 0, st, _, he, n, hn => by
    obtain ⟨m, rfl⟩ : ∃ m, n = m + 1 := ⟨n - 1, by omega⟩
    unfold kh_lp
    rw [he]
  | N + 1, st, h, he, n, hn => by
    obtain ⟨m, rfl⟩ : ∃ m, n = m + 1 := ⟨n - 1, by omega⟩
    unfold kh_lp
    rw [h 0 (by omega)]
    exact kp_lp N (fun j => st (j + 1)) (fun j hj => h (j + 1) (by omega)) he m (by omega)
theorem kp_in {j n : Nat} (h : j < n) (hn : n < 2 ^ 31) : kh_in (nI j) n = true := by
  simp only [kh_in, Bool.and_eq_true, decide_eq_true_eq]
  exact ⟨nI_pos' (by omega), by rw [nI_clamp (by omega)]; exact h⟩
def bt (x : Int32) (i : Nat) : Bool := x.toBitVec.getLsbD i
theorem b_ext {x y : Int32} (h : ∀ i, i < 32 → bt x i = bt y i) : x = y := Int32.toBitVec_inj.mp (BitVec.eq_of_getLsbD_eq (fun i hi => h i hi))
theorem b_or (x y : Int32) (i : Nat) : bt (x ||| y) i = (bt x i || bt y i) := by unfold bt; rw [Int32.toBitVec_or, BitVec.getLsbD_or]
theorem b_and (x y : Int32) (i : Nat) : bt (x &&& y) i = (bt x i && bt y i) := by unfold bt; rw [Int32.toBitVec_and, BitVec.getLsbD_and]
theorem b_xor (x y : Int32) (i : Nat) : bt (x ^^^ y) i = (bt x i ^^ bt y i) := by unfold bt; rw [Int32.toBitVec_xor, BitVec.getLsbD_xor]
theorem b_big {x : Int32} {i : Nat} (h : 32 ≤ i) : bt x i = false := BitVec.getLsbD_of_ge _ _ h
theorem b_m1 : ∀ i, i < 32 → bt (-1) i = true := by decide +kernel
theorem b_0 (i : Nat) : bt 0 i = false := BitVec.getLsbD_zero
theorem s_l : ∀ n, n < 32 → ((nI n &&& 31).toBitVec.smod 32).toNat = n := by decide +kernel
theorem s_u : ∀ n, n < 32 → (((nI n).toUInt32 &&& Int32.toUInt32 31).toBitVec % 32).toNat = n := by decide +kernel
theorem b_shl (n : Nat) (hn : n < 32) (x : Int32) {i : Nat} (hi : i < 32) : bt (x <<< (nI n &&& 31)) i = (decide (n ≤ i) && bt x (i - n)) := by
  unfold bt
  rw [Int32.toBitVec_shiftLeft]
  show (x.toBitVec <<< ((nI n &&& 31).toBitVec.smod 32).toNat).getLsbD i = _
  rw [s_l n hn, BitVec.getLsbD_shiftLeft]
  rcases Nat.lt_or_ge i n with h | h
  · simp [h, Nat.not_le.mpr h]
  · simp [hi, h, Nat.not_lt.mpr h]
theorem b_sshr (n : Nat) (hn : n < 32) (x : Int32) {i : Nat} (hi : i < 32) : bt (x >>> (nI n &&& 31)) i = if n + i < 32 then bt x (n + i) else bt x 31 := by
  unfold bt
  rw [Int32.toBitVec_shiftRight]
  show (x.toBitVec.sshiftRight ((nI n &&& 31).toBitVec.smod 32).toNat).getLsbD i = _
  rw [s_l n hn, BitVec.getLsbD_sshiftRight, BitVec.msb_eq_getLsbD_last]
  simp [hi]
theorem b_nI (n : Nat) {i : Nat} (hi : i < 32) : bt (nI n) i = n.testBit i := by
  show (BitVec.ofNat 32 n).getLsbD i = n.testBit i
  rw [BitVec.getLsbD_ofNat]
  simp [hi]
theorem b_1 {i : Nat} (hi : i < 32) : bt 1 i = decide (i = 0) := by
  have h : ∀ i, i < 32 → bt 1 i = decide (i = 0) := by decide +kernel
  exact h i hi
theorem b_bit (k : Nat) (hk : k < 32) {i : Nat} (hi : i < 32) : bt ((1 : Int32) <<< (nI k &&& 31)) i = decide (i = k) := by
  rw [b_shl k hk 1 hi, b_1 (show i - k < 32 by omega)]
  by_cases h : i = k
  · subst h; simp
  · simp only [h, decide_false]
    by_cases h2 : k ≤ i
    · simp only [h2, decide_true, Bool.true_and]; exact decide_eq_false (by omega)
    · simp [h2]
theorem b_not (x : Int32) {i : Nat} (hi : i < 32) : bt (x ^^^ (-1)) i = !bt x i := by
  rw [b_xor, b_m1 i hi]; simp
theorem b_eq0 {x : Int32} : x = 0 ↔ ∀ i, i < 32 → bt x i = false := by
  constructor
  · intro h i _; rw [h]; exact b_0 i
  · intro h; exact b_ext fun i hi => by rw [h i hi, b_0]
theorem kp_has (k : Nat) (hk : k < 32) (x : Int32) : (x &&& ((1 : Int32) <<< (nI k &&& 31))) = 0 ↔ bt x k = false := by
  rw [b_eq0]
  constructor
  · intro h
    have := h k hk
    rw [b_and, b_bit k hk hk] at this
    simpa using this
  · intro h i hi
    rw [b_and, b_bit k hk hi]
    by_cases e : i = k
    · subst e; simp [h]
    · simp [e]
theorem kp_a1 (x : Int32) : (x &&& 1) = 0 ↔ bt x 0 = false := by
  rw [b_eq0]
  constructor
  · intro h
    have := h 0 (by omega)
    rw [b_and, b_1 (by omega)] at this
    simpa using this
  · intro h i hi
    rw [b_and, b_1 hi]
    by_cases e : i = 0
    · subst e; simp [h]
    · simp [e]
theorem kp_a1' (x : Int32) : (x &&& 1) = 1 ↔ bt x 0 = true := by
  constructor
  · intro h
    cases e : bt x 0 with
    | true => rfl
    | false =>
      rw [(kp_a1 x).mpr e] at h
      exact absurd h (by decide)
  · intro h
    refine b_ext fun i hi => ?_
    rw [b_and, b_1 hi]
    by_cases e : i = 0
    · subst e; simp [h]
    · simp [e]
theorem kp_shr0 (k : Nat) (hk : k < 32) (x : Int32) : bt (x >>> (nI k &&& 31)) 0 = bt x k := by
  rw [b_sshr k hk x (by omega)]
  simp [hk]
theorem kp_shr (k : Nat) (hk : k < 32) (x : Int32) : ((x >>> (nI k &&& 31)) &&& 1) = 1 ↔ bt x k = true := by rw [kp_a1', kp_shr0 k hk]
theorem kp_shrF (k : Nat) (hk : k < 32) (x : Int32) : ((x >>> (nI k &&& 31)) &&& 1) = 0 ↔ bt x k = false := by rw [kp_a1, kp_shr0 k hk]
/-- one set of things within another -/
def sb (a b : Int32) : Prop := ∀ i, i < 32 → bt a i = true → bt b i = true
theorem sb_iff (a b : Int32) : (a &&& (b ^^^ (-1))) = 0 ↔ sb a b := by
  rw [b_eq0]
  constructor
  · intro h i hi ha
    have h1 := h i hi
    rw [b_and, b_not b hi, ha] at h1
    simpa using h1
  · intro h i hi
    rw [b_and, b_not b hi]
    cases e : bt a i with
    | false => rfl
    | true => rw [h i hi e]; rfl
theorem sb_rfl (a : Int32) : sb a a := fun _ _ h => h
theorem sb_tr {a b c : Int32} (h1 : sb a b) (h2 : sb b c) : sb a c := fun i hi h => h2 i hi (h1 i hi h)
theorem sb_orl (a b : Int32) : sb a (a ||| b) := fun i _ h => by rw [b_or, h]; rfl
theorem sb_orr (a b : Int32) : sb b (a ||| b) := fun i _ h => by rw [b_or, h]; simp
theorem sb_or {a b c : Int32} (h1 : sb a c) (h2 : sb b c) : sb (a ||| b) c := fun i hi h => by
  rw [b_or, Bool.or_eq_true] at h
  exact h.elim (h1 i hi) (h2 i hi)
theorem sb_anti {a b : Int32} (h1 : sb a b) (h2 : sb b a) : a = b := b_ext fun i hi => by
  cases e : bt a i with
  | true => rw [h1 i hi e]
  | false =>
    cases e2 : bt b i with
    | false => rfl
    | true => rw [h2 i hi e2] at e; cases e
theorem sb_self {a b : Int32} (h : sb b a) : a ||| b = a := sb_anti (sb_or (sb_rfl a) h) (sb_orl a b)
def sv (a b : Int32) : Bool := decide ((a &&& (b ^^^ (-1))) = 0)
theorem sv_iff {a b : Int32} : sv a b = true ↔ sb a b := by unfold sv; rw [decide_eq_true_eq, sb_iff]
theorem sv_pos {a b : Int32} (h : sv a b = true) : (a &&& (b ^^^ (-1))) = 0 := of_decide_eq_true h
theorem sv_neg {a b : Int32} (h : sv a b = false) : ¬ (a &&& (b ^^^ (-1))) = 0 := of_decide_eq_false h
