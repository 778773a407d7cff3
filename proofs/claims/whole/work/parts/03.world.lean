/-! THE WORLD of this claim: all cells of the class and of the reference, numbered by kind and index; what they hold is one table of ints (references are coded by the index of their object, null by a negative number). -/
abbrev kh_S : Type := Nat → Nat → Nat → Nat → Int32
def kh_up (ρ : kh_S) (k s i j : Nat) (v : Int32) : kh_S := fun k' s' i' j' => if k' = k ∧ s' = s ∧ i' = i ∧ j' = j then v else ρ k' s' i' j'
def kh_rc (ad : Nat → Nat → Nat) (k : Nat) (x : Int32) : Option Nat := if x < 0 then none else some (ad k x.toNatClampNeg)
/-- how many of a kind there are -/
def kh_n (ρ : kh_S) (k : Nat) : Nat := if k < 6 then 1 else if k < 11 then (ρ 61 0 0 0).toNatClampNeg else if k < 13 then (ρ 61 1 0 0).toNatClampNeg else if k = 13 then 3 else if k = 14 then (ρ 61 2 0 0).toNatClampNeg else if k = 15 then 1 else if k < 24 then 0 else if k = 34 then 0 else if k = 47 then 0 else if k < 53 then 1 else if k = 60 then 1 else 0
/-- a kind's shape: 0 an object, 1 ints, 2 booleans, 3 longs, 4 references; its class or the kind referred to; the length -/
def kh_kd (k : Nat) : Nat × Nat × Nat := if k = 0 then (0, 4, 0) else if k = 1 then (4, 6, 4) else if k = 2 then (4, 11, 30) else if k = 3 then (4, 14, 30) else if k = 4 then (4, 13, 3) else if k = 5 then (1, 0, 256) else if k = 6 then (0, 2, 0) else if k < 11 then (1, 0, 8) else if k = 11 then (0, 1, 0) else if k = 12 then (1, 0, 8) else if k = 13 then (0, 3, 0) else if k = 14 then (0, 0, 0) else if k = 15 then (0, 5, 0) else if k < 30 then (1, 0, 4) else if k < 34 then (1, 0, 32) else if k < 42 then (1, 0, 30) else if k = 42 then (1, 0, 240) else if k < 46 then (1, 0, 3) else if k = 46 then (2, 0, 3) else if k < 52 then (1, 0, 30) else if k = 52 then (1, 0, 256) else if k = 60 then (3, 0, 1) else (1, 0, 0)
/-- an object's fields: 0 an int; 1 a reference to a kind, coded; 2 the cell of a kind with the object's own index -/
def kh_ds (k : Nat) : List (Nat × Nat) :=
  if k = 0 then [(2, 1), (0, 0), (2, 2), (0, 0), (2, 3), (0, 0), (2, 4), (0, 0), (0, 0), (2, 5)]
  else if k = 6 then [(0, 0), (0, 0), (2, 7), (2, 8), (2, 9), (2, 10), (0, 0), (0, 0), (0, 0), (0, 0), (0, 0), (0, 0), (1, 11)]
  else if k = 11 then [(0, 0), (1, 6), (0, 0), (2, 12), (0, 0), (0, 0), (0, 0), (0, 0), (0, 0)]
  else if k = 13 then [(1, 6), (0, 0), (0, 0)]
  else if k = 14 then [(1, 6), (0, 0), (0, 0), (0, 0)]
  else if k = 15 then [(0, 0), (0, 0), (0, 0), (0, 0), (2, 24), (2, 25), (2, 26), (2, 27), (2, 28), (2, 29), (2, 30), (2, 31), (2, 32), (2, 33), (0, 0), (2, 35), (2, 36), (2, 37), (2, 38), (2, 39), (2, 40), (2, 41), (2, 42), (2, 43), (2, 44), (2, 45), (2, 46), (0, 0), (2, 48), (2, 49), (2, 50), (2, 51), (2, 52)]
  else []
def kh_dv (ad : Nat → Nat → Nat) (ρ : kh_S) (k i s : Nat) (d : Nat × Nat) : Value := if d.1 = 0 then .int (ρ k s i 0) else if d.1 = 1 then va_rf (kh_rc ad d.2 (ρ k s i 0)) else .ref (ad d.2 i)
def kh_fs (ad : Nat → Nat → Nat) (ρ : kh_S) (k i : Nat) : Nat → List (Nat × Nat) → List Value
  | _, [] => []
  | s, d :: t => kh_dv ad ρ k i s d :: kh_fs ad ρ k i (s + 1) t
def kh_e (ca : Nat → ClassId) (ad : Nat → Nat → Nat) (ρ : kh_S) (k i : Nat) : va_E :=
  if (kh_kd k).1 = 0 then .inr ((kh_kd k).2.1, kh_fs ad ρ k i 0 (kh_ds k))
  else if (kh_kd k).1 = 3 then .inl (ca k, (kh_kd k).2.2, .inr (.inl (fun j => (ρ k 0 i j).toInt64)))
  else if (kh_kd k).1 = 4 then .inl (ca k, (kh_kd k).2.2, .inr (.inr (.inr (.inr (fun j => kh_rc ad (kh_kd k).2.1 (ρ k 0 i j))))))
  else .inl (ca k, (kh_kd k).2.2, .inl (ρ k 0 i))
def kh_w (D : va_G) (ca : Nat → ClassId) (A : Nat → Prop) (ad : Nat → Nat → Nat) (ρ : kh_S) (H : Heap) : Prop :=
  (∀ k i : Nat, i < kh_n ρ k → va_at D vwCl (ad k i, kh_e ca ad ρ k i) H ∧ A (ad k i)) ∧ ∀ k i k' i' : Nat, i < kh_n ρ k → i' < kh_n ρ k' → ad k i = ad k' i' → k = k' ∧ i = i'
/-- the class of an array's elements -/
def kh_ty (k : Nat) : FieldType := if (kh_kd k).1 = 1 then .int else if (kh_kd k).1 = 2 then .boolean else if (kh_kd k).1 = 3 then .long else if k = 1 then .object RX2 else if k = 2 then .object RX1 else if k = 3 then .object RX0 else .object RX3
/-- the words on the classes' fields, and on the private members that a nest mate uses -/
def kh_L (U : State) : Prop := ∀ (ci : Nat) (q : vw_C), vwCl[ci]? = some q → ∀ w ∈ u_ws q.1 q.2.1 q.2.2, ∀ a : Array Value, w.before a U = true
def kh_Ns (U : State) : Prop := va_Nw (.methodLinkNest RX2 40 yX4_has RX4) U ∧ va_Nw (.methodLinkNest RX2 44 yX4_with RX4) U ∧ va_Nw (.methodLinkNest RX2 48 yX4_isWithin RX4) U ∧ va_Nw (.methodLinkNest RX4 37 yX3_init RX4) U
def kh_K (D : va_G) (ca : Nat → ClassId) (U : State) : Prop := va_K D vwCl [] U ∧ (∀ k : Nat, (kh_kd k).1 ≠ 0 → ArrOfT U (ca k) (kh_ty k) ∧ va_RA U (ca k) (kh_ty k)) ∧ kh_L U ∧ kh_Ns U
def kh_C (p : Program) (s : State) (m : MethodId) (args : Array Value) (c : Code) (cc : ByteArray) (nL : Nat) (own : String) (Ts : List Cond) (D : va_G) (ca : Nat → ClassId) (A : Nat → Prop) : Prop :=
  p.tables.exec = Jvm.exec ∧ c.code = cc ∧ c.maxLocals = nL ∧ s.vm.findClass own = some m.cls ∧ (∀ w ∈ Ts, w.before args s = true) ∧ kh_K D ca s ∧ ∀ q : Nat, s.heap.size ≤ q → A q
def kh_I (D : va_G) (ca : Nat → ClassId) (A : Nat → Prop) (ad : Nat → Nat → Nat) (ρ : kh_S) (U : State) : Prop := kh_K D ca U ∧ kh_w D ca A ad ρ U.heap ∧ ∀ q : Nat, U.heap.size ≤ q → A q
/-! pure rows -/
theorem kh_up_self (ρ : kh_S) (k s i j : Nat) (v : Int32) : kh_up ρ k s i j v k s i j = v := by simp [kh_up]
theorem kh_up_ne {ρ : kh_S} {k s i j k' s' i' j' : Nat} {v : Int32} (h : ¬ (k' = k ∧ s' = s ∧ i' = i ∧ j' = j)) : kh_up ρ k s i j v k' s' i' j' = ρ k' s' i' j' := if_neg h
theorem kh_n_up {ρ : kh_S} {k s i j : Nat} {v : Int32} (hk : k ≠ 61) (k' : Nat) : kh_n (kh_up ρ k s i j v) k' = kh_n ρ k' := by
  have e : ∀ a b d : Nat, kh_up ρ k s i j v 61 a b d = ρ 61 a b d := fun a b d => kh_up_ne (fun h => hk h.1.symm)
  simp only [kh_n, e]
theorem kh_lu {ρ : kh_S} {k s i j x k' : Nat} {v : Int32} (h : x < kh_n ρ k') (hk : k ≠ 61 := by decide) : x < kh_n (kh_up ρ k s i j v) k' := by rw [kh_n_up hk]; exact h
theorem kh_fs_congr {ad : Nat → Nat → Nat} {ρ ρ' : kh_S} {k i : Nat} (h : ∀ s : Nat, ρ k s i 0 = ρ' k s i 0) : ∀ (ds : List (Nat × Nat)) (s : Nat), kh_fs ad ρ k i s ds = kh_fs ad ρ' k i s ds
  | [], _ => rfl
  | d :: t, s => by
    show kh_dv ad ρ k i s d :: kh_fs ad ρ k i (s + 1) t = kh_dv ad ρ' k i s d :: kh_fs ad ρ' k i (s + 1) t
    rw [kh_fs_congr h t (s + 1)]
    simp only [kh_dv, h s]
theorem kh_e_congr {ca : Nat → ClassId} {ad : Nat → Nat → Nat} {ρ ρ' : kh_S} {k i : Nat} (h : ∀ s j : Nat, ρ k s i j = ρ' k s i j) : kh_e ca ad ρ k i = kh_e ca ad ρ' k i := by
  have h1 : ρ k 0 i = ρ' k 0 i := funext (h 0)
  simp only [kh_e, kh_fs_congr (fun s => h s 0), h1]
theorem kh_fs_len (ad : Nat → Nat → Nat) (ρ : kh_S) (k i : Nat) : ∀ (ds : List (Nat × Nat)) (s : Nat), (kh_fs ad ρ k i s ds).length = ds.length
  | [], _ => rfl
  | d :: t, s => by
    show (kh_fs ad ρ k i (s + 1) t).length + 1 = t.length + 1
    rw [kh_fs_len ad ρ k i t (s + 1)]
theorem kh_fs_set {ad : Nat → Nat → Nat} {ρ : kh_S} {k i : Nat} {x : Int32} {d : Nat × Nat} : ∀ (ds : List (Nat × Nat)) (s n : Nat), ds[n]? = some d → kh_fs ad (kh_up ρ k (s + n) i 0 x) k i s ds = (kh_fs ad ρ k i s ds).set n (kh_dv ad (kh_up ρ k (s + n) i 0 x) k i (s + n) d)
  | [], _, _, h => by simp at h
  | d0 :: t, s, 0, h => by
    cases h
    show kh_dv ad _ k i s d :: kh_fs ad _ k i (s + 1) t = kh_dv ad _ k i (s + 0) d :: kh_fs ad ρ k i (s + 1) t
    congr 1
    have key : ∀ (l : List (Nat × Nat)) (s1 : Nat), s < s1 → kh_fs ad (kh_up ρ k (s + 0) i 0 x) k i s1 l = kh_fs ad ρ k i s1 l := by
      intro l
      induction l with
      | nil => intro s1 _; rfl
      | cons a l ih =>
        intro s1 h1
        show kh_dv ad _ k i s1 a :: _ = kh_dv ad ρ k i s1 a :: _
        rw [ih (s1 + 1) (by omega)]
        congr 1
        have e : kh_up ρ k (s + 0) i 0 x k s1 i 0 = ρ k s1 i 0 := kh_up_ne (fun z => by omega)
        simp only [kh_dv, e]
    exact key t (s + 1) (by omega)
  | d0 :: t, s, n + 1, h => by
    have h' : t[n]? = some d := by simpa using h
    have e : kh_up ρ k (s + (n + 1)) i 0 x k s i 0 = ρ k s i 0 := kh_up_ne (fun z => by omega)
    show kh_dv ad _ k i s d0 :: kh_fs ad _ k i (s + 1) t = kh_dv ad ρ k i s d0 :: (kh_fs ad ρ k i (s + 1) t).set n _
    have e2 : s + (n + 1) = (s + 1) + n := by omega
    rw [show kh_dv ad (kh_up ρ k (s + (n + 1)) i 0 x) k i s d0 = kh_dv ad ρ k i s d0 by simp only [kh_dv, e]]
    rw [e2, kh_fs_set t (s + 1) n h']
/-- an index of something that is there -/
def kh_in (x : Int32) (n : Nat) : Bool := decide (0 ≤ x) && decide (x.toNatClampNeg < n)
theorem kh_in_vp {x : Int32} {n : Nat} (h : kh_in x n = true) : vp_in x n := by
  simp only [kh_in, Bool.and_eq_true, decide_eq_true_eq] at h
  intro q
  rcases q with q | q
  · exact absurd h.1 (Int32.not_le.mpr q)
  · omega
theorem kh_in_lt {x : Int32} {n : Nat} (h : kh_in x n = true) : x.toNatClampNeg < n := by
  simp only [kh_in, Bool.and_eq_true, decide_eq_true_eq] at h
  exact h.2
theorem kh_in_nn {x : Int32} {n : Nat} (h : kh_in x n = true) : ¬ x < 0 := by
  simp only [kh_in, Bool.and_eq_true, decide_eq_true_eq] at h
  exact Int32.not_lt.mpr h.1
theorem kh_rf {ad : Nat → Nat → Nat} {k n : Nat} {x : Int32} (h : kh_in x n = true) : va_rf (kh_rc ad k x) = .ref (ad k x.toNatClampNeg) := by
  rw [kh_rc, if_neg (kh_in_nn h)]; rfl
/-- partial answers -/
def kh_gd {α : Type} (b : Bool) (x : Option α) : Option α := if b = true then x else none
theorem kh_gd_ok {α : Type} {b : Bool} {x : Option α} {y : α} (h : kh_gd b x = some y) : b = true ∧ x = some y := by
  unfold kh_gd at h
  by_cases hb : b = true
  · rw [if_pos hb] at h; exact ⟨hb, h⟩
  · rw [if_neg hb] at h; cases h
def kh_bd {α β : Type} (x : Option α) (f : α → Option β) : Option β := match x with
  | none => none
  | some a => f a
theorem kh_bd_ok {α β : Type} {x : Option α} {f : α → Option β} {y : β} (h : kh_bd x f = some y) : ∃ a, x = some a ∧ f a = some y := by
  cases x with
  | none => cases h
  | some a => exact ⟨a, rfl, h⟩
theorem kh_ift {c : Prop} [Decidable c] {α : Type} {a b x : α} (h : ite c a b = x) (hc : c) : a = x := by rw [if_pos hc] at h; exact h
theorem kh_iff {c : Prop} [Decidable c] {α : Type} {a b x : α} (h : ite c a b = x) (hc : ¬ c) : b = x := by rw [if_neg hc] at h; exact h
/-- a loop: its step goes on (inl) or ends (inr) -/
def kh_lp {α β : Type} (f : α → Option (α ⊕ β)) : Nat → α → Option β
  | 0, _ => none
  | n + 1, a => match f a with
    | none => none
    | some (.inl a') => kh_lp f n a'
    | some (.inr b) => some b
theorem kh_lp_ok {α β : Type} {f : α → Option (α ⊕ β)} {n : Nat} {a : α} {b : β} (h : kh_lp f (n + 1) a = some b) : ∃ q, f a = some q ∧ ((∃ a', q = .inl a' ∧ kh_lp f n a' = some b) ∨ q = .inr b) := by
  unfold kh_lp at h
  cases e : f a with
  | none => rw [e] at h; cases h
  | some q =>
    rw [e] at h
    cases q with
    | inl a' => exact ⟨_, rfl, Or.inl ⟨a', rfl, h⟩⟩
    | inr b' =>
      have : b' = b := Option.some.inj h
      subst this
      exact ⟨_, rfl, Or.inr rfl⟩
/-! what is moved -/
theorem kh_L.moved {s U : State} (hW : s.WarmedH U.vm) (h : kh_L s) : kh_L U := by
  intro ci q hq w hw a
  have h1 := h ci q hq w hw a
  obtain ⟨k, -, rfl⟩ := List.mem_map.mp hw
  unfold u_lay at h1 ⊢
  split
  · rename_i z
    rw [if_pos z] at h1
    exact word_at hW (Or.inl rfl) h1
  · rename_i z
    rw [if_neg z] at h1
    exact word_at hW (Or.inl rfl) h1
theorem kh_K.moved {D : va_G} {ca : Nat → ClassId} {s U : State} (hW : s.WarmedH U.vm) (h : kh_K D ca s) : kh_K D ca U :=
  ⟨va_K.moved hW.alike h.1, fun k hk => ⟨arrOfT_moved hW.alike (h.2.1 k hk).1, (h.2.1 k hk).2.moved hW.alike⟩, h.2.2.1.moved hW, va_Nw.warmM hW h.2.2.2.1, va_Nw.warmM hW h.2.2.2.2.1, va_Nw.warmM hW h.2.2.2.2.2.1, va_Nw.warmM hW h.2.2.2.2.2.2⟩
theorem kh_blind {D : va_G} {ca : Nat → ClassId} {A : Nat → Prop} {ad : Nat → Nat → Nat} {ρ : kh_S} {as : List Value} : FrameBlind (va_Pc as (kh_I D ca A ad ρ)) :=
  fun a U g mk q => ⟨q.1, kh_K.moved (U := U.calling g mk a) (State.WarmedH.refl U) q.2.1, q.2.2.1, q.2.2.2⟩
theorem kh_w.lt {D : va_G} {ca : Nat → ClassId} {A : Nat → Prop} {ad : Nat → Nat → Nat} {ρ : kh_S} {H : Heap} (hw : kh_w D ca A ad ρ H) {k i : Nat} (hi : i < kh_n ρ k) : ad k i < H.size := (hw.1 k i hi).1.lt
theorem kh_w.put {D : va_G} {ca : Nat → ClassId} {A : Nat → Prop} {ad : Nat → Nat → Nat} {ρ : kh_S} {H H1 : Heap} (hw : kh_w D ca A ad ρ H) {k s i j : Nat} {v : Int32} (hk : k ≠ 61) (hi : i < kh_n ρ k) (oq : ∀ q : Nat, q ≠ ad k i → H1[q]? = H[q]?)
    (he : va_at D vwCl (ad k i, kh_e ca ad (kh_up ρ k s i j v) k i) H1) : kh_w D ca A ad (kh_up ρ k s i j v) H1 := by
  refine ⟨fun k' i' hi' => ?_, fun k1 i1 k2 i2 h1 h2 h3 => ?_⟩
  · rw [kh_n_up hk] at hi'
    by_cases h : k' = k ∧ i' = i
    · obtain ⟨rfl, rfl⟩ := h
      exact ⟨he, (hw.1 _ _ hi).2⟩
    · have e : kh_e ca ad (kh_up ρ k s i j v) k' i' = kh_e ca ad ρ k' i' := kh_e_congr (fun s' j' => kh_up_ne (fun z => h ⟨z.1, z.2.2.1⟩))
      rw [e]
      exact ⟨(hw.1 k' i' hi').1.kept (oq _ (fun z => h (hw.2 k' i' k i hi' hi z))), (hw.1 k' i' hi').2⟩
  · rw [kh_n_up hk] at h1 h2
    exact hw.2 k1 i1 k2 i2 h1 h2 h3
theorem kh_cls {ci : Nat} {q : vw_C} (h : vwCl[ci]? = some q) : (∃ ty0 : Nat → FieldType, ∀ k, k < q.2.2 → parseFieldDescriptor (q.2.1 k).2.2.1 = some (ty0 k)) ∧ ∀ a, a < q.2.2 → ∀ b, b < q.2.2 → a ≠ b → (q.2.1 a).2.1 ≠ (q.2.1 b).2.1 := by
  match ci, h with
  | 0, h => cases h; exact ⟨⟨_, tyX0_ok⟩, nmX0⟩
  | 1, h => cases h; exact ⟨⟨_, tyX1_ok⟩, nmX1⟩
  | 2, h => cases h; exact ⟨⟨_, tyX2_ok⟩, nmX2⟩
  | 3, h => cases h; exact ⟨⟨_, tyX3_ok⟩, nmX3⟩
  | 4, h => cases h; exact ⟨⟨_, tyX4_ok⟩, nmX4⟩
  | 5, h => cases h; exact ⟨⟨_, tyX5_ok⟩, nmX5⟩
  | n + 6, h => simp [vwCl] at h
