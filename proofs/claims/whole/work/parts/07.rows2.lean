/-! more rows: answers, locals at the entry, constants -/
def kh_pu (x : Option Int32) (ρ : kh_S) : Option (Int32 × kh_S) := match x with
  | none => none
  | some r => some (r, ρ)
theorem kh_mp {x : Option Int32} {r : Int32} {ρ : kh_S} (h : x = some r) : kh_pu x ρ = some (r, ρ) := by rw [h]; rfl
def kh_bd2 {α β γ : Type} (x : Option (α × β)) (f : α → β → Option γ) : Option γ := match x with
  | none => none
  | some a => f a.1 a.2
theorem kh_bd2_ok {α β γ : Type} {x : Option (α × β)} {f : α → β → Option γ} {y : γ} (h : kh_bd2 x f = some y) : ∃ a b, x = some (a, b) ∧ f a b = some y := by
  cases x with
  | none => cases h
  | some a => exact ⟨a.1, a.2, rfl, h⟩
theorem kh_an : ∀ v ∈ ([] : List Value), v.category = 1 := fun _ h => absurd h List.not_mem_nil
theorem kh_ac {v : Value} {t : List Value} (h : v.category = 1) (ht : ∀ w ∈ t, w.category = 1) : ∀ w ∈ v :: t, w.category = 1 := fun w hw => (List.mem_cons.mp hw).elim (fun e => by rw [e]; exact h) (ht w)
theorem kh_sum {st : List Value} (hc : ∀ v ∈ st, v.category = 1) (h : st.length ≤ 8) : (st.map fun v => v.category).sum ≤ 8 := by
  have e : ∀ (t : List Value), (∀ v ∈ t, v.category = 1) → (t.map fun v => v.category).sum = t.length := by
    intro t
    induction t with
    | nil => intro _; rfl
    | cons a t ih =>
      intro h
      rw [List.map_cons, List.sum_cons, h a List.mem_cons_self, ih (fun v hv => h v (List.mem_cons_of_mem _ hv)), List.length_cons]
      omega
  rw [e st hc]; exact h
def kh_zip : Nat → List Value → List (Nat × Value)
  | _, [] => []
  | i, v :: t => (i, v) :: kh_zip (i + 1) t
theorem kh_args : ∀ (vs : List Value) (i : Nat), (∀ v ∈ vs, v.category = 1) → lv_args i vs = kh_zip i vs
  | [], _, _ => rfl
  | v :: t, i, h => by
    have h1 := h v List.mem_cons_self
    show (i, v) :: lv_args (if v.category = 2 then i + 2 else i + 1) t = (i, v) :: kh_zip (i + 1) t
    rw [if_neg (by omega), kh_args t (i + 1) (fun w hw => h w (List.mem_cons_of_mem _ hw))]
theorem kh_sll : ∀ (vs : List Value), (∀ v ∈ vs, v.category = 1) → (lg_sl vs).length = vs.length
  | [], _ => rfl
  | v :: t, h => by
    have h1 := h v List.mem_cons_self
    have h2 := kh_sll t (fun w hw => h w (List.mem_cons_of_mem _ hw))
    simp only [lg_sl] at h2
    simp only [lg_sl, List.flatMap_cons, List.length_append, List.length_cons, h2]
    rw [if_neg (by omega)]
    simp only [List.length_cons, List.length_nil]
    omega
theorem kh_zip_in : ∀ (vs : List Value) (i : Nat), ∀ q ∈ kh_zip i vs, q.2 ∈ vs
  | [], _, q, h => by cases h
  | v :: t, i, q, h => by
    rcases List.mem_cons.mp h with e | h
    · rw [e]; exact List.mem_cons_self
    · exact List.mem_cons_of_mem _ (kh_zip_in t (i + 1) q h)
theorem kh_entry (vs : List Value) {n : Nat} (hc : ∀ v ∈ vs, v.category = 1) (h : vs.length ≤ n) : kh_lv ((lg_sl vs ++ List.replicate (n - (lg_sl vs).length) Slot.unset).toArray) n (kh_zip 0 vs) := by
  have h1 := lv_entry vs (n := n) (by rw [kh_sll vs hc]; exact h)
  rw [kh_args vs 0 hc] at h1
  exact ⟨h1, fun q hq => hc _ (kh_zip_in vs 0 q hq)⟩
theorem kh_bk {D : va_G} {ca : Nat → ClassId} {A : Nat → Prop} {ad : Nat → Nat → Nat} {ρ : kh_S} {t : State} {H : Heap} (ht : t.heap = H) (hw : kh_w D ca A ad ρ H) : kh_w D ca A ad ρ t.heap := by rw [ht]; exact hw
theorem kh_kd0 : kh_kd 0 = (0, 4, 0) := rfl
theorem kh_kd1 : kh_kd 1 = (4, 6, 4) := rfl
theorem kh_kd2 : kh_kd 2 = (4, 11, 30) := rfl
theorem kh_kd3 : kh_kd 3 = (4, 14, 30) := rfl
theorem kh_kd4 : kh_kd 4 = (4, 13, 3) := rfl
theorem kh_kd5 : kh_kd 5 = (1, 0, 256) := rfl
theorem kh_kd6 : kh_kd 6 = (0, 2, 0) := rfl
theorem kh_kd7 : kh_kd 7 = (1, 0, 8) := rfl
theorem kh_kd8 : kh_kd 8 = (1, 0, 8) := rfl
theorem kh_kd9 : kh_kd 9 = (1, 0, 8) := rfl
theorem kh_kd10 : kh_kd 10 = (1, 0, 8) := rfl
theorem kh_kd11 : kh_kd 11 = (0, 1, 0) := rfl
theorem kh_kd12 : kh_kd 12 = (1, 0, 8) := rfl
theorem kh_kd13 : kh_kd 13 = (0, 3, 0) := rfl
theorem kh_kd14 : kh_kd 14 = (0, 0, 0) := rfl
theorem kh_kd15 : kh_kd 15 = (0, 5, 0) := rfl
theorem kh_kd24 : kh_kd 24 = (1, 0, 4) := rfl
theorem kh_kd25 : kh_kd 25 = (1, 0, 4) := rfl
theorem kh_kd26 : kh_kd 26 = (1, 0, 4) := rfl
theorem kh_kd27 : kh_kd 27 = (1, 0, 4) := rfl
theorem kh_kd28 : kh_kd 28 = (1, 0, 4) := rfl
theorem kh_kd29 : kh_kd 29 = (1, 0, 4) := rfl
theorem kh_kd30 : kh_kd 30 = (1, 0, 32) := rfl
theorem kh_kd31 : kh_kd 31 = (1, 0, 32) := rfl
theorem kh_kd32 : kh_kd 32 = (1, 0, 32) := rfl
theorem kh_kd33 : kh_kd 33 = (1, 0, 32) := rfl
theorem kh_kd35 : kh_kd 35 = (1, 0, 30) := rfl
theorem kh_kd36 : kh_kd 36 = (1, 0, 30) := rfl
theorem kh_kd37 : kh_kd 37 = (1, 0, 30) := rfl
theorem kh_kd38 : kh_kd 38 = (1, 0, 30) := rfl
theorem kh_kd39 : kh_kd 39 = (1, 0, 30) := rfl
theorem kh_kd40 : kh_kd 40 = (1, 0, 30) := rfl
theorem kh_kd41 : kh_kd 41 = (1, 0, 30) := rfl
theorem kh_kd42 : kh_kd 42 = (1, 0, 240) := rfl
theorem kh_kd43 : kh_kd 43 = (1, 0, 3) := rfl
theorem kh_kd44 : kh_kd 44 = (1, 0, 3) := rfl
theorem kh_kd45 : kh_kd 45 = (1, 0, 3) := rfl
theorem kh_kd46 : kh_kd 46 = (2, 0, 3) := rfl
theorem kh_kd48 : kh_kd 48 = (1, 0, 30) := rfl
theorem kh_kd49 : kh_kd 49 = (1, 0, 30) := rfl
theorem kh_kd50 : kh_kd 50 = (1, 0, 30) := rfl
theorem kh_kd51 : kh_kd 51 = (1, 0, 30) := rfl
theorem kh_kd52 : kh_kd 52 = (1, 0, 256) := rfl
theorem kh_kd60 : kh_kd 60 = (3, 0, 1) := rfl
theorem kh_z0 (ρ : kh_S) : 0 < kh_n ρ 0 := Nat.one_pos
theorem kh_z1 (ρ : kh_S) : 0 < kh_n ρ 1 := Nat.one_pos
theorem kh_z2 (ρ : kh_S) : 0 < kh_n ρ 2 := Nat.one_pos
theorem kh_z3 (ρ : kh_S) : 0 < kh_n ρ 3 := Nat.one_pos
theorem kh_z4 (ρ : kh_S) : 0 < kh_n ρ 4 := Nat.one_pos
theorem kh_z5 (ρ : kh_S) : 0 < kh_n ρ 5 := Nat.one_pos
theorem kh_z15 (ρ : kh_S) : 0 < kh_n ρ 15 := Nat.one_pos
theorem kh_z24 (ρ : kh_S) : 0 < kh_n ρ 24 := Nat.one_pos
theorem kh_z25 (ρ : kh_S) : 0 < kh_n ρ 25 := Nat.one_pos
theorem kh_z26 (ρ : kh_S) : 0 < kh_n ρ 26 := Nat.one_pos
theorem kh_z27 (ρ : kh_S) : 0 < kh_n ρ 27 := Nat.one_pos
theorem kh_z28 (ρ : kh_S) : 0 < kh_n ρ 28 := Nat.one_pos
theorem kh_z29 (ρ : kh_S) : 0 < kh_n ρ 29 := Nat.one_pos
theorem kh_z30 (ρ : kh_S) : 0 < kh_n ρ 30 := Nat.one_pos
theorem kh_z31 (ρ : kh_S) : 0 < kh_n ρ 31 := Nat.one_pos
theorem kh_z32 (ρ : kh_S) : 0 < kh_n ρ 32 := Nat.one_pos
theorem kh_z33 (ρ : kh_S) : 0 < kh_n ρ 33 := Nat.one_pos
theorem kh_z35 (ρ : kh_S) : 0 < kh_n ρ 35 := Nat.one_pos
theorem kh_z36 (ρ : kh_S) : 0 < kh_n ρ 36 := Nat.one_pos
theorem kh_z37 (ρ : kh_S) : 0 < kh_n ρ 37 := Nat.one_pos
theorem kh_z38 (ρ : kh_S) : 0 < kh_n ρ 38 := Nat.one_pos
theorem kh_z39 (ρ : kh_S) : 0 < kh_n ρ 39 := Nat.one_pos
theorem kh_z40 (ρ : kh_S) : 0 < kh_n ρ 40 := Nat.one_pos
theorem kh_z41 (ρ : kh_S) : 0 < kh_n ρ 41 := Nat.one_pos
theorem kh_z42 (ρ : kh_S) : 0 < kh_n ρ 42 := Nat.one_pos
theorem kh_z43 (ρ : kh_S) : 0 < kh_n ρ 43 := Nat.one_pos
theorem kh_z44 (ρ : kh_S) : 0 < kh_n ρ 44 := Nat.one_pos
theorem kh_z45 (ρ : kh_S) : 0 < kh_n ρ 45 := Nat.one_pos
theorem kh_z46 (ρ : kh_S) : 0 < kh_n ρ 46 := Nat.one_pos
theorem kh_z48 (ρ : kh_S) : 0 < kh_n ρ 48 := Nat.one_pos
theorem kh_z49 (ρ : kh_S) : 0 < kh_n ρ 49 := Nat.one_pos
theorem kh_z50 (ρ : kh_S) : 0 < kh_n ρ 50 := Nat.one_pos
theorem kh_z51 (ρ : kh_S) : 0 < kh_n ρ 51 := Nat.one_pos
theorem kh_z52 (ρ : kh_S) : 0 < kh_n ρ 52 := Nat.one_pos
theorem kh_z60 (ρ : kh_S) : 0 < kh_n ρ 60 := Nat.one_pos
theorem kf_0_0 (ad : Nat → Nat → Nat) (ρ : kh_S) (i : Nat) : (kh_fs ad ρ 0 i 0 (kh_ds 0))[0]? = some (.ref (ad 1 i)) := rfl
theorem kq_0_0 : (kh_ds 0)[0]? = some (2, 1) := rfl
theorem kf_0_1 (ad : Nat → Nat → Nat) (ρ : kh_S) (i : Nat) : (kh_fs ad ρ 0 i 0 (kh_ds 0))[1]? = some (.int (ρ 0 1 i 0)) := rfl
theorem kq_0_1 : (kh_ds 0)[1]? = some (0, 0) := rfl
theorem kf_0_2 (ad : Nat → Nat → Nat) (ρ : kh_S) (i : Nat) : (kh_fs ad ρ 0 i 0 (kh_ds 0))[2]? = some (.ref (ad 2 i)) := rfl
theorem kq_0_2 : (kh_ds 0)[2]? = some (2, 2) := rfl
theorem kf_0_3 (ad : Nat → Nat → Nat) (ρ : kh_S) (i : Nat) : (kh_fs ad ρ 0 i 0 (kh_ds 0))[3]? = some (.int (ρ 0 3 i 0)) := rfl
theorem kq_0_3 : (kh_ds 0)[3]? = some (0, 0) := rfl
theorem kf_0_4 (ad : Nat → Nat → Nat) (ρ : kh_S) (i : Nat) : (kh_fs ad ρ 0 i 0 (kh_ds 0))[4]? = some (.ref (ad 3 i)) := rfl
theorem kq_0_4 : (kh_ds 0)[4]? = some (2, 3) := rfl
theorem kf_0_5 (ad : Nat → Nat → Nat) (ρ : kh_S) (i : Nat) : (kh_fs ad ρ 0 i 0 (kh_ds 0))[5]? = some (.int (ρ 0 5 i 0)) := rfl
theorem kq_0_5 : (kh_ds 0)[5]? = some (0, 0) := rfl
theorem kf_0_6 (ad : Nat → Nat → Nat) (ρ : kh_S) (i : Nat) : (kh_fs ad ρ 0 i 0 (kh_ds 0))[6]? = some (.ref (ad 4 i)) := rfl
theorem kq_0_6 : (kh_ds 0)[6]? = some (2, 4) := rfl
theorem kf_0_7 (ad : Nat → Nat → Nat) (ρ : kh_S) (i : Nat) : (kh_fs ad ρ 0 i 0 (kh_ds 0))[7]? = some (.int (ρ 0 7 i 0)) := rfl
theorem kq_0_7 : (kh_ds 0)[7]? = some (0, 0) := rfl
theorem kf_0_8 (ad : Nat → Nat → Nat) (ρ : kh_S) (i : Nat) : (kh_fs ad ρ 0 i 0 (kh_ds 0))[8]? = some (.int (ρ 0 8 i 0)) := rfl
theorem kq_0_8 : (kh_ds 0)[8]? = some (0, 0) := rfl
theorem kf_0_9 (ad : Nat → Nat → Nat) (ρ : kh_S) (i : Nat) : (kh_fs ad ρ 0 i 0 (kh_ds 0))[9]? = some (.ref (ad 5 i)) := rfl
theorem kq_0_9 : (kh_ds 0)[9]? = some (2, 5) := rfl
theorem kf_6_0 (ad : Nat → Nat → Nat) (ρ : kh_S) (i : Nat) : (kh_fs ad ρ 6 i 0 (kh_ds 6))[0]? = some (.int (ρ 6 0 i 0)) := rfl
theorem kq_6_0 : (kh_ds 6)[0]? = some (0, 0) := rfl
theorem kf_6_1 (ad : Nat → Nat → Nat) (ρ : kh_S) (i : Nat) : (kh_fs ad ρ 6 i 0 (kh_ds 6))[1]? = some (.int (ρ 6 1 i 0)) := rfl
theorem kq_6_1 : (kh_ds 6)[1]? = some (0, 0) := rfl
theorem kf_6_2 (ad : Nat → Nat → Nat) (ρ : kh_S) (i : Nat) : (kh_fs ad ρ 6 i 0 (kh_ds 6))[2]? = some (.ref (ad 7 i)) := rfl
theorem kq_6_2 : (kh_ds 6)[2]? = some (2, 7) := rfl
theorem kf_6_3 (ad : Nat → Nat → Nat) (ρ : kh_S) (i : Nat) : (kh_fs ad ρ 6 i 0 (kh_ds 6))[3]? = some (.ref (ad 8 i)) := rfl
theorem kq_6_3 : (kh_ds 6)[3]? = some (2, 8) := rfl
theorem kf_6_4 (ad : Nat → Nat → Nat) (ρ : kh_S) (i : Nat) : (kh_fs ad ρ 6 i 0 (kh_ds 6))[4]? = some (.ref (ad 9 i)) := rfl
theorem kq_6_4 : (kh_ds 6)[4]? = some (2, 9) := rfl
theorem kf_6_5 (ad : Nat → Nat → Nat) (ρ : kh_S) (i : Nat) : (kh_fs ad ρ 6 i 0 (kh_ds 6))[5]? = some (.ref (ad 10 i)) := rfl
theorem kq_6_5 : (kh_ds 6)[5]? = some (2, 10) := rfl
theorem kf_6_6 (ad : Nat → Nat → Nat) (ρ : kh_S) (i : Nat) : (kh_fs ad ρ 6 i 0 (kh_ds 6))[6]? = some (.int (ρ 6 6 i 0)) := rfl
theorem kq_6_6 : (kh_ds 6)[6]? = some (0, 0) := rfl
theorem kf_6_7 (ad : Nat → Nat → Nat) (ρ : kh_S) (i : Nat) : (kh_fs ad ρ 6 i 0 (kh_ds 6))[7]? = some (.int (ρ 6 7 i 0)) := rfl
theorem kq_6_7 : (kh_ds 6)[7]? = some (0, 0) := rfl
theorem kf_6_8 (ad : Nat → Nat → Nat) (ρ : kh_S) (i : Nat) : (kh_fs ad ρ 6 i 0 (kh_ds 6))[8]? = some (.int (ρ 6 8 i 0)) := rfl
theorem kq_6_8 : (kh_ds 6)[8]? = some (0, 0) := rfl
theorem kf_6_9 (ad : Nat → Nat → Nat) (ρ : kh_S) (i : Nat) : (kh_fs ad ρ 6 i 0 (kh_ds 6))[9]? = some (.int (ρ 6 9 i 0)) := rfl
theorem kq_6_9 : (kh_ds 6)[9]? = some (0, 0) := rfl
theorem kf_6_10 (ad : Nat → Nat → Nat) (ρ : kh_S) (i : Nat) : (kh_fs ad ρ 6 i 0 (kh_ds 6))[10]? = some (.int (ρ 6 10 i 0)) := rfl
theorem kq_6_10 : (kh_ds 6)[10]? = some (0, 0) := rfl
theorem kf_6_11 (ad : Nat → Nat → Nat) (ρ : kh_S) (i : Nat) : (kh_fs ad ρ 6 i 0 (kh_ds 6))[11]? = some (.int (ρ 6 11 i 0)) := rfl
theorem kq_6_11 : (kh_ds 6)[11]? = some (0, 0) := rfl
theorem kf_6_12 (ad : Nat → Nat → Nat) (ρ : kh_S) (i : Nat) : (kh_fs ad ρ 6 i 0 (kh_ds 6))[12]? = some (va_rf (kh_rc ad 11 (ρ 6 12 i 0))) := rfl
theorem kq_6_12 : (kh_ds 6)[12]? = some (1, 11) := rfl
theorem kf_11_0 (ad : Nat → Nat → Nat) (ρ : kh_S) (i : Nat) : (kh_fs ad ρ 11 i 0 (kh_ds 11))[0]? = some (.int (ρ 11 0 i 0)) := rfl
theorem kq_11_0 : (kh_ds 11)[0]? = some (0, 0) := rfl
theorem kf_11_1 (ad : Nat → Nat → Nat) (ρ : kh_S) (i : Nat) : (kh_fs ad ρ 11 i 0 (kh_ds 11))[1]? = some (va_rf (kh_rc ad 6 (ρ 11 1 i 0))) := rfl
theorem kq_11_1 : (kh_ds 11)[1]? = some (1, 6) := rfl
theorem kf_11_2 (ad : Nat → Nat → Nat) (ρ : kh_S) (i : Nat) : (kh_fs ad ρ 11 i 0 (kh_ds 11))[2]? = some (.int (ρ 11 2 i 0)) := rfl
theorem kq_11_2 : (kh_ds 11)[2]? = some (0, 0) := rfl
theorem kf_11_3 (ad : Nat → Nat → Nat) (ρ : kh_S) (i : Nat) : (kh_fs ad ρ 11 i 0 (kh_ds 11))[3]? = some (.ref (ad 12 i)) := rfl
theorem kq_11_3 : (kh_ds 11)[3]? = some (2, 12) := rfl
theorem kf_11_4 (ad : Nat → Nat → Nat) (ρ : kh_S) (i : Nat) : (kh_fs ad ρ 11 i 0 (kh_ds 11))[4]? = some (.int (ρ 11 4 i 0)) := rfl
theorem kq_11_4 : (kh_ds 11)[4]? = some (0, 0) := rfl
theorem kf_11_5 (ad : Nat → Nat → Nat) (ρ : kh_S) (i : Nat) : (kh_fs ad ρ 11 i 0 (kh_ds 11))[5]? = some (.int (ρ 11 5 i 0)) := rfl
theorem kq_11_5 : (kh_ds 11)[5]? = some (0, 0) := rfl
theorem kf_11_6 (ad : Nat → Nat → Nat) (ρ : kh_S) (i : Nat) : (kh_fs ad ρ 11 i 0 (kh_ds 11))[6]? = some (.int (ρ 11 6 i 0)) := rfl
theorem kq_11_6 : (kh_ds 11)[6]? = some (0, 0) := rfl
theorem kf_11_7 (ad : Nat → Nat → Nat) (ρ : kh_S) (i : Nat) : (kh_fs ad ρ 11 i 0 (kh_ds 11))[7]? = some (.int (ρ 11 7 i 0)) := rfl
theorem kq_11_7 : (kh_ds 11)[7]? = some (0, 0) := rfl
theorem kf_11_8 (ad : Nat → Nat → Nat) (ρ : kh_S) (i : Nat) : (kh_fs ad ρ 11 i 0 (kh_ds 11))[8]? = some (.int (ρ 11 8 i 0)) := rfl
theorem kq_11_8 : (kh_ds 11)[8]? = some (0, 0) := rfl
theorem kf_13_0 (ad : Nat → Nat → Nat) (ρ : kh_S) (i : Nat) : (kh_fs ad ρ 13 i 0 (kh_ds 13))[0]? = some (va_rf (kh_rc ad 6 (ρ 13 0 i 0))) := rfl
theorem kq_13_0 : (kh_ds 13)[0]? = some (1, 6) := rfl
theorem kf_13_1 (ad : Nat → Nat → Nat) (ρ : kh_S) (i : Nat) : (kh_fs ad ρ 13 i 0 (kh_ds 13))[1]? = some (.int (ρ 13 1 i 0)) := rfl
theorem kq_13_1 : (kh_ds 13)[1]? = some (0, 0) := rfl
theorem kf_13_2 (ad : Nat → Nat → Nat) (ρ : kh_S) (i : Nat) : (kh_fs ad ρ 13 i 0 (kh_ds 13))[2]? = some (.int (ρ 13 2 i 0)) := rfl
theorem kq_13_2 : (kh_ds 13)[2]? = some (0, 0) := rfl
theorem kf_14_0 (ad : Nat → Nat → Nat) (ρ : kh_S) (i : Nat) : (kh_fs ad ρ 14 i 0 (kh_ds 14))[0]? = some (va_rf (kh_rc ad 6 (ρ 14 0 i 0))) := rfl
theorem kq_14_0 : (kh_ds 14)[0]? = some (1, 6) := rfl
theorem kf_14_1 (ad : Nat → Nat → Nat) (ρ : kh_S) (i : Nat) : (kh_fs ad ρ 14 i 0 (kh_ds 14))[1]? = some (.int (ρ 14 1 i 0)) := rfl
theorem kq_14_1 : (kh_ds 14)[1]? = some (0, 0) := rfl
theorem kf_14_2 (ad : Nat → Nat → Nat) (ρ : kh_S) (i : Nat) : (kh_fs ad ρ 14 i 0 (kh_ds 14))[2]? = some (.int (ρ 14 2 i 0)) := rfl
theorem kq_14_2 : (kh_ds 14)[2]? = some (0, 0) := rfl
theorem kf_14_3 (ad : Nat → Nat → Nat) (ρ : kh_S) (i : Nat) : (kh_fs ad ρ 14 i 0 (kh_ds 14))[3]? = some (.int (ρ 14 3 i 0)) := rfl
theorem kq_14_3 : (kh_ds 14)[3]? = some (0, 0) := rfl
theorem kf_15_0 (ad : Nat → Nat → Nat) (ρ : kh_S) (i : Nat) : (kh_fs ad ρ 15 i 0 (kh_ds 15))[0]? = some (.int (ρ 15 0 i 0)) := rfl
theorem kq_15_0 : (kh_ds 15)[0]? = some (0, 0) := rfl
theorem kf_15_1 (ad : Nat → Nat → Nat) (ρ : kh_S) (i : Nat) : (kh_fs ad ρ 15 i 0 (kh_ds 15))[1]? = some (.int (ρ 15 1 i 0)) := rfl
theorem kq_15_1 : (kh_ds 15)[1]? = some (0, 0) := rfl
theorem kf_15_2 (ad : Nat → Nat → Nat) (ρ : kh_S) (i : Nat) : (kh_fs ad ρ 15 i 0 (kh_ds 15))[2]? = some (.int (ρ 15 2 i 0)) := rfl
theorem kq_15_2 : (kh_ds 15)[2]? = some (0, 0) := rfl
theorem kf_15_3 (ad : Nat → Nat → Nat) (ρ : kh_S) (i : Nat) : (kh_fs ad ρ 15 i 0 (kh_ds 15))[3]? = some (.int (ρ 15 3 i 0)) := rfl
theorem kq_15_3 : (kh_ds 15)[3]? = some (0, 0) := rfl
theorem kf_15_4 (ad : Nat → Nat → Nat) (ρ : kh_S) (i : Nat) : (kh_fs ad ρ 15 i 0 (kh_ds 15))[4]? = some (.ref (ad 24 i)) := rfl
theorem kq_15_4 : (kh_ds 15)[4]? = some (2, 24) := rfl
theorem kf_15_5 (ad : Nat → Nat → Nat) (ρ : kh_S) (i : Nat) : (kh_fs ad ρ 15 i 0 (kh_ds 15))[5]? = some (.ref (ad 25 i)) := rfl
theorem kq_15_5 : (kh_ds 15)[5]? = some (2, 25) := rfl
theorem kf_15_6 (ad : Nat → Nat → Nat) (ρ : kh_S) (i : Nat) : (kh_fs ad ρ 15 i 0 (kh_ds 15))[6]? = some (.ref (ad 26 i)) := rfl
theorem kq_15_6 : (kh_ds 15)[6]? = some (2, 26) := rfl
theorem kf_15_7 (ad : Nat → Nat → Nat) (ρ : kh_S) (i : Nat) : (kh_fs ad ρ 15 i 0 (kh_ds 15))[7]? = some (.ref (ad 27 i)) := rfl
theorem kq_15_7 : (kh_ds 15)[7]? = some (2, 27) := rfl
theorem kf_15_8 (ad : Nat → Nat → Nat) (ρ : kh_S) (i : Nat) : (kh_fs ad ρ 15 i 0 (kh_ds 15))[8]? = some (.ref (ad 28 i)) := rfl
theorem kq_15_8 : (kh_ds 15)[8]? = some (2, 28) := rfl
theorem kf_15_9 (ad : Nat → Nat → Nat) (ρ : kh_S) (i : Nat) : (kh_fs ad ρ 15 i 0 (kh_ds 15))[9]? = some (.ref (ad 29 i)) := rfl
theorem kq_15_9 : (kh_ds 15)[9]? = some (2, 29) := rfl
theorem kf_15_10 (ad : Nat → Nat → Nat) (ρ : kh_S) (i : Nat) : (kh_fs ad ρ 15 i 0 (kh_ds 15))[10]? = some (.ref (ad 30 i)) := rfl
theorem kq_15_10 : (kh_ds 15)[10]? = some (2, 30) := rfl
theorem kf_15_11 (ad : Nat → Nat → Nat) (ρ : kh_S) (i : Nat) : (kh_fs ad ρ 15 i 0 (kh_ds 15))[11]? = some (.ref (ad 31 i)) := rfl
theorem kq_15_11 : (kh_ds 15)[11]? = some (2, 31) := rfl
theorem kf_15_12 (ad : Nat → Nat → Nat) (ρ : kh_S) (i : Nat) : (kh_fs ad ρ 15 i 0 (kh_ds 15))[12]? = some (.ref (ad 32 i)) := rfl
theorem kq_15_12 : (kh_ds 15)[12]? = some (2, 32) := rfl
theorem kf_15_13 (ad : Nat → Nat → Nat) (ρ : kh_S) (i : Nat) : (kh_fs ad ρ 15 i 0 (kh_ds 15))[13]? = some (.ref (ad 33 i)) := rfl
theorem kq_15_13 : (kh_ds 15)[13]? = some (2, 33) := rfl
theorem kf_15_14 (ad : Nat → Nat → Nat) (ρ : kh_S) (i : Nat) : (kh_fs ad ρ 15 i 0 (kh_ds 15))[14]? = some (.int (ρ 15 14 i 0)) := rfl
theorem kq_15_14 : (kh_ds 15)[14]? = some (0, 0) := rfl
theorem kf_15_15 (ad : Nat → Nat → Nat) (ρ : kh_S) (i : Nat) : (kh_fs ad ρ 15 i 0 (kh_ds 15))[15]? = some (.ref (ad 35 i)) := rfl
theorem kq_15_15 : (kh_ds 15)[15]? = some (2, 35) := rfl
theorem kf_15_16 (ad : Nat → Nat → Nat) (ρ : kh_S) (i : Nat) : (kh_fs ad ρ 15 i 0 (kh_ds 15))[16]? = some (.ref (ad 36 i)) := rfl
theorem kq_15_16 : (kh_ds 15)[16]? = some (2, 36) := rfl
theorem kf_15_17 (ad : Nat → Nat → Nat) (ρ : kh_S) (i : Nat) : (kh_fs ad ρ 15 i 0 (kh_ds 15))[17]? = some (.ref (ad 37 i)) := rfl
theorem kq_15_17 : (kh_ds 15)[17]? = some (2, 37) := rfl
theorem kf_15_18 (ad : Nat → Nat → Nat) (ρ : kh_S) (i : Nat) : (kh_fs ad ρ 15 i 0 (kh_ds 15))[18]? = some (.ref (ad 38 i)) := rfl
theorem kq_15_18 : (kh_ds 15)[18]? = some (2, 38) := rfl
theorem kf_15_19 (ad : Nat → Nat → Nat) (ρ : kh_S) (i : Nat) : (kh_fs ad ρ 15 i 0 (kh_ds 15))[19]? = some (.ref (ad 39 i)) := rfl
theorem kq_15_19 : (kh_ds 15)[19]? = some (2, 39) := rfl
theorem kf_15_20 (ad : Nat → Nat → Nat) (ρ : kh_S) (i : Nat) : (kh_fs ad ρ 15 i 0 (kh_ds 15))[20]? = some (.ref (ad 40 i)) := rfl
theorem kq_15_20 : (kh_ds 15)[20]? = some (2, 40) := rfl
theorem kf_15_21 (ad : Nat → Nat → Nat) (ρ : kh_S) (i : Nat) : (kh_fs ad ρ 15 i 0 (kh_ds 15))[21]? = some (.ref (ad 41 i)) := rfl
theorem kq_15_21 : (kh_ds 15)[21]? = some (2, 41) := rfl
theorem kf_15_22 (ad : Nat → Nat → Nat) (ρ : kh_S) (i : Nat) : (kh_fs ad ρ 15 i 0 (kh_ds 15))[22]? = some (.ref (ad 42 i)) := rfl
theorem kq_15_22 : (kh_ds 15)[22]? = some (2, 42) := rfl
theorem kf_15_23 (ad : Nat → Nat → Nat) (ρ : kh_S) (i : Nat) : (kh_fs ad ρ 15 i 0 (kh_ds 15))[23]? = some (.ref (ad 43 i)) := rfl
theorem kq_15_23 : (kh_ds 15)[23]? = some (2, 43) := rfl
theorem kf_15_24 (ad : Nat → Nat → Nat) (ρ : kh_S) (i : Nat) : (kh_fs ad ρ 15 i 0 (kh_ds 15))[24]? = some (.ref (ad 44 i)) := rfl
theorem kq_15_24 : (kh_ds 15)[24]? = some (2, 44) := rfl
theorem kf_15_25 (ad : Nat → Nat → Nat) (ρ : kh_S) (i : Nat) : (kh_fs ad ρ 15 i 0 (kh_ds 15))[25]? = some (.ref (ad 45 i)) := rfl
theorem kq_15_25 : (kh_ds 15)[25]? = some (2, 45) := rfl
theorem kf_15_26 (ad : Nat → Nat → Nat) (ρ : kh_S) (i : Nat) : (kh_fs ad ρ 15 i 0 (kh_ds 15))[26]? = some (.ref (ad 46 i)) := rfl
theorem kq_15_26 : (kh_ds 15)[26]? = some (2, 46) := rfl
theorem kf_15_27 (ad : Nat → Nat → Nat) (ρ : kh_S) (i : Nat) : (kh_fs ad ρ 15 i 0 (kh_ds 15))[27]? = some (.int (ρ 15 27 i 0)) := rfl
theorem kq_15_27 : (kh_ds 15)[27]? = some (0, 0) := rfl
theorem kf_15_28 (ad : Nat → Nat → Nat) (ρ : kh_S) (i : Nat) : (kh_fs ad ρ 15 i 0 (kh_ds 15))[28]? = some (.ref (ad 48 i)) := rfl
theorem kq_15_28 : (kh_ds 15)[28]? = some (2, 48) := rfl
theorem kf_15_29 (ad : Nat → Nat → Nat) (ρ : kh_S) (i : Nat) : (kh_fs ad ρ 15 i 0 (kh_ds 15))[29]? = some (.ref (ad 49 i)) := rfl
theorem kq_15_29 : (kh_ds 15)[29]? = some (2, 49) := rfl
theorem kf_15_30 (ad : Nat → Nat → Nat) (ρ : kh_S) (i : Nat) : (kh_fs ad ρ 15 i 0 (kh_ds 15))[30]? = some (.ref (ad 50 i)) := rfl
theorem kq_15_30 : (kh_ds 15)[30]? = some (2, 50) := rfl
theorem kf_15_31 (ad : Nat → Nat → Nat) (ρ : kh_S) (i : Nat) : (kh_fs ad ρ 15 i 0 (kh_ds 15))[31]? = some (.ref (ad 51 i)) := rfl
theorem kq_15_31 : (kh_ds 15)[31]? = some (2, 51) := rfl
theorem kf_15_32 (ad : Nat → Nat → Nat) (ρ : kh_S) (i : Nat) : (kh_fs ad ρ 15 i 0 (kh_ds 15))[32]? = some (.ref (ad 52 i)) := rfl
theorem kq_15_32 : (kh_ds 15)[32]? = some (2, 52) := rfl
theorem kh_ty1 : kh_ty 1 = .object RX2 := rfl
theorem kh_ty2 : kh_ty 2 = .object RX1 := rfl
theorem kh_ty3 : kh_ty 3 = .object RX0 := rfl
theorem kh_ty4 : kh_ty 4 = .object RX3 := rfl
