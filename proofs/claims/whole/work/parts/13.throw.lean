/-! methods that throw -/
abbrev kh_nm : List String := ["java/lang/RuntimeException", "java/lang/Exception"]
abbrev kh_E1 : String := "java/lang/IllegalArgumentException"
abbrev kh_E2 : String := "java/lang/IllegalStateException"
abbrev kh_E3 : String := "java/lang/IndexOutOfBoundsException"
def kh_hat (E : String) (ic : Nat) (U : State) : Prop := (∀ w ∈ (vx_atS RX4 ic E kh_nm).filter goodWord, ∀ a : Array Value, w.before a U = true) ∧ va_Nw (.castable E E) U ∧ va_Nw (.declares (Bundle.initS "java/lang/RuntimeException")) U ∧ va_Nw (.declares (Bundle.initS "java/lang/Exception")) U ∧ va_Nw (.declares (Bundle.initS Bundle.tN)) U
abbrev kh_B (E : String) : List Cond := [.castable E E, .declares (Bundle.initS "java/lang/RuntimeException"), .declares (Bundle.initS "java/lang/Exception"), .declares (Bundle.initS Bundle.tN)]
theorem kh_hat.moved {E : String} {ic : Nat} {s U : State} (hW : s.WarmedH U.vm) (h : kh_hat E ic s) : kh_hat E ic U :=
  ⟨fun w hw a => word_at hW (good_of_word (List.mem_filter.mp hw).2) (h.1 w hw #[]), va_Nw.warmC hW h.2.1, va_Nw.warmD hW h.2.2.1, va_Nw.warmD hW h.2.2.2.1, va_Nw.warmD hW h.2.2.2.2⟩
def kh_strs : List (Nat × String) := [(44, "things are 0 to 4095"), (55, "there are 4 rooms"), (70, "props are 0 to 7, or NONE"), (73, "a puzzle gives things that it does not need"), (75, "minutes are 1 to 10"), (83, "the room is not READY, or has 8 puzzles"), (89, "props are 0 to 7"), (131, "the room is not READY, or cannot be left"), (140, "a booking is too nea\x72"), (145, "there were 30 groups"), (159, "no such puzzle"), (172, "the group does not play, or may not solve that"), (184, "the group does not play"), (192, "the group has no way"), (210, "the room is not DIRTY, or they reset another one"), (226, "they do not reset a puzzle now"), (234, "a booking begins now or later, at 4940 at the latest"), (243, "there were 30 bookings"), (253, "the booking is not OPEN"), (255, "minutes are 0 to 4940"), (266, "minutes are 1 to 600"), (268, "minutes are counted up to 5000"), (283, "what is 0 to 4"), (292, "what is 0 to 5"), (296, "what is 0 to 2"), (305, "what is 0 to 3"), (307, "no such room"), (309, "no such group"), (311, "no such crew membe\x72"), (313, "no such booking")]
def kh_T (A : Nat → Prop) (U : State) : Prop := vx_Zq Bundle.tN "UNASSIGNED_STACK" Bundle.steD A U U.heap ∧ vx_Zq Bundle.tN "SUPPRESSED_SENTINEL" Bundle.listD A U U.heap ∧ (∀ q ∈ kh_strs, ∃ sa : Nat, vk_R RX4 q.1 q.2 sa U) ∧ kh_hat kh_E1 46 U ∧ kh_hat kh_E2 57 U ∧ kh_hat kh_E3 72 U
theorem kh_T.moved {A : Nat → Prop} {s U : State} (hW : s.WarmedH U.vm) (hk : ∀ a : Nat, a < s.heap.size → ¬ A a → U.heap[a]? = s.heap[a]?) (h : kh_T A s) : kh_T A U :=
  ⟨vx_Zq.kept (vx_Zq.moved hW.alike h.1) hk, vx_Zq.kept (vx_Zq.moved hW.alike h.2.1) hk, fun q hq => (h.2.2.1 q hq).imp fun sa z => vk_R.warm hW z, h.2.2.2.1.moved hW, h.2.2.2.2.1.moved hW, h.2.2.2.2.2.moved hW⟩
def kh_J (D : va_G) (ca : Nat → ClassId) (A : Nat → Prop) (ad : Nat → Nat → Nat) (ρ : kh_S) (U : State) : Prop := kh_I D ca A ad ρ U ∧ kh_T A U
theorem kh_blindJ {D : va_G} {ca : Nat → ClassId} {A : Nat → Prop} {ad : Nat → Nat → Nat} {ρ : kh_S} {as : List Value} : FrameBlind (va_Pc as (kh_J D ca A ad ρ)) :=
  fun a U g mk q => ⟨q.1, ⟨kh_K.moved (U := U.calling g mk a) (State.WarmedH.refl U) q.2.1.1, q.2.1.2.1, q.2.1.2.2⟩, kh_T.moved (U := U.calling g mk a) (State.WarmedH.refl U) (fun _ _ _ => rfl) q.2.2⟩
theorem kh_w.ext {D : va_G} {ca : Nat → ClassId} {A : Nat → Prop} {ad : Nat → Nat → Nat} {ρ : kh_S} {H H1 : Heap} (hw : kh_w D ca A ad ρ H) (h : ∀ q : Nat, q < H.size → H1[q]? = H[q]?) : kh_w D ca A ad ρ H1 :=
  ⟨fun k i hi => ⟨(hw.1 k i hi).1.kept (h _ (hw.1 k i hi).1.lt), (hw.1 k i hi).2⟩, hw.2⟩
def kh_X {β : Type} (D : va_G) (ca : Nat → ClassId) (A : Nat → Prop) (ad : Nat → Nat → Nat) (F : Option ((String × kh_S) ⊕ β)) : String → State → State → Prop := vx_X (fun _ : kh_S => True) (fun E u t => F = some (.inl (E, u)) ∧ kh_w D ca A ad u t.heap) A
abbrev kh_Yi (D : va_G) (ca : Nat → ClassId) (A : Nat → Prop) (ad : Nat → Nat → Nat) (F : Option ((String × kh_S) ⊕ (Int32 × kh_S))) : Array Value → State → Outcome → State → Prop := va_Qi (fun (r : Int32) (u : kh_S) => F = some (.inr (r, u))) (fun u t => kh_w D ca A ad u t.heap) A
abbrev kh_Yv (D : va_G) (ca : Nat → ClassId) (A : Nat → Prop) (ad : Nat → Nat → Nat) (F : Option ((String × kh_S) ⊕ kh_S)) : Array Value → State → Outcome → State → Prop := va_Qv (fun (u : kh_S) => F = some (.inr u)) (fun u t => kh_w D ca A ad u t.heap) A
abbrev kh_Yq (D : va_G) (ca : Nat → ClassId) (A : Nat → Prop) (ad : Nat → Nat → Nat) (k : Nat) (F : Option ((String × kh_S) ⊕ (Int32 × kh_S))) : Array Value → State → Outcome → State → Prop := va_Qq (fun (r : Option Nat) (u : Int32 × kh_S) => r = kh_rc ad k u.1 ∧ F = some (.inr u)) (fun u t => kh_w D ca A ad u.2 t.heap) A
/-- a method that throws but doesn't write -/
def kh_pt (x : Option (String ⊕ Int32)) (ρ : kh_S) : Option ((String × kh_S) ⊕ (Int32 × kh_S)) := match x with
  | none => none
  | some (.inl e) => some (.inl (e, ρ))
  | some (.inr r) => some (.inr (r, ρ))
theorem kh_pl {x : Option (String ⊕ Int32)} {e : String} {ρ : kh_S} (h : x = some (.inl e)) : kh_pt x ρ = some (.inl (e, ρ)) := by rw [h]; rfl
theorem kh_pr {x : Option (String ⊕ Int32)} {r : Int32} {ρ : kh_S} (h : x = some (.inr r)) : kh_pt x ρ = some (.inr (r, ρ)) := by rw [h]; rfl
def kh_bx {ε α β : Type} (x : Option (ε ⊕ α)) (g : ε → Option β) (f : α → Option β) : Option β := match x with
  | none => none
  | some (.inl e) => g e
  | some (.inr a) => f a
theorem kh_bx_ok {ε α β : Type} {x : Option (ε ⊕ α)} {g : ε → Option β} {f : α → Option β} {y : β} (h : kh_bx x g f = some y) : (∃ e, x = some (.inl e) ∧ g e = some y) ∨ ∃ a, x = some (.inr a) ∧ f a = some y := by
  cases x with
  | none => cases h
  | some a => cases a with
    | inl e => exact Or.inl ⟨e, rfl, h⟩
    | inr a => exact Or.inr ⟨a, rfl, h⟩
section KHX
variable {p : Program} {l : Launch} {e : Env} {R : Room} {s : State} {m : MethodId} {args : Array Value} {below : List Frame} {meth : Method} {c : Code} {H : Heap} {locs : List Loc} {cells slots : Nat} {Q : State → Prop}
variable {cc : ByteArray} {nL pc : Nat} {own : String} {Ts : List Cond} {ls : Array Slot} {rest st0 : List Value} {D : va_G} {ca : Nat → ClassId} {A : Nat → Prop} {ad : Nat → Nat → Nat} {ρ : kh_S} {a : Array Value} {mc ms : Nat}
theorem kh_preJ (C : kh_C p s m args c cc nL own Ts D ca A) (hT : kh_T A s) (hw : kh_w D ca A ad ρ H) (hS : va_S A s.heap H locs) {as : List Value} (U : State) (hU : U.heap = H) (hW : s.WarmedH U.vm) : va_Pc as (kh_J D ca A ad ρ) as.toArray U :=
  ⟨rfl, (kh_pre C hw hS (as := as) U hU hW).2, kh_T.moved hW (by rw [hU]; exact hS.2.1) hT⟩
theorem kh_preVJ (C : kh_C p s m args c cc nL own Ts D ca A) (hT : kh_T A s) (hw : kh_w D ca A ad ρ H) (hS : va_S A s.heap H locs) (k : Nat) {i ci N : Nat} {Cn : String} {T : u_T} {As : List Value} (hi : i < kh_n ρ k) (hkd : kh_kd k = (0, ci, 0)) (hc : vwCl[ci]? = some (Cn, T, N)) : PreV s H Cn (ad k i) (va_Pc (.ref (ad k i) :: As) (kh_J D ca A ad ρ)) As :=
  ⟨kh_blindJ, kh_recv C.2.2.2.2.2.1 hw k hi hkd hc, fun U hU hW => kh_preJ C hT hw hS U hU hW⟩
theorem kh_out {β : Type} {Qc : Array Value → State → Outcome → State → Prop} {F : Option ((String × kh_S) ⊕ β)} {E : String} {ce : Cell} {q : Addr} (hout : ∀ x ∈ c.exceptionTable.toList, False) (hlocks : meth.locks = false) (hcell : H[q]? = some ce) (hv : ce.vm = .none) (hcl : s.vm.findClass E = some ce.cls)
    (hw : kh_w D ca A ad ρ H) (hS : va_S A s.heap H locs) (hF : F = some (.inl (E, ρ))) (hc : cells ≤ mc) (hs : slots ≤ ms) : vx_W p l e R s m args below meth c H locs cells slots (vx_MQ below Qc (kh_X D ca A ad F) args s mc ms A) (F0 m pc ls rest) q :=
  vx_out (fun x hx => (hout x hx).elim) hlocks hcell hv hcl (fun t ht _ => ⟨ρ, trivial, ⟨hF, kh_bk ht hw⟩, hS.F ht⟩) hS.2.2 hc hs
theorem kh_xT {β : Type} {F : Option ((String × kh_S) ⊕ β)} {E : String} (hw : kh_w D ca A ad ρ H) (hS : va_S A s.heap H locs) (hF : F = some (.inl (E, ρ))) (t : State) (h1 : H.size ≤ t.heap.size) (h2 : ∀ q : Nat, q < H.size → t.heap[q]? = H[q]?) : kh_X D ca A ad F E s t :=
  ⟨ρ, trivial, ⟨hF, hw.ext h2⟩, Nat.le_trans hS.1 h1, fun q h3 h4 => (h2 q (Nat.lt_of_lt_of_le h3 hS.1)).trans (hS.2.1 q h3 h4)⟩
/-- throw new E("text") -/
theorem kh_throw {β : Type} {Qc : Array Value → State → Outcome → State → Prop} {F : Option ((String × kh_S) ⊕ β)} (C : kh_C p s m args c cc nL RX4 Ts D ca A) (hl : l.stackTraces = false) (hT : kh_T A s) (hw : kh_w D ca A ad ρ H) (hS : va_S A s.heap H locs) (hz : ls.size = nL) (hout : ∀ x ∈ c.exceptionTable.toList, False) (hlocks : meth.locks = false) {E text : String} {ik is ic : Nat}
    (hh : kh_hat E ic s) (hq : (is, text) ∈ kh_strs) (hE : Bundle.fit E = true) (hgood : ∀ w ∈ Cond.classLink RX4 ik E :: Cond.initialized E :: vx_atS RX4 ic E kh_nm, vx_ot w = true) (hB : ∀ w ∈ (vx_atS RX4 ic E kh_nm).filter (fun w => !goodWord w), w ∈ kh_B E) (hk : (Cond.classLink RX4 ik E).before args s = true) (hini : (Cond.initialized E).before args s = true)
    (d0 : decode cc pc = .ok (.new ik, 3)) (d3 : decode cc (pc + 3) = .ok (.dup, 1)) (d4 : decode cc (pc + 4) = .ok (.ldc is, 2)) (d6 : decode cc (pc + 6) = .ok (.invokespecial ic, 3)) (d9 : decode cc (pc + 9) = .ok (.athrow, 1))
    (hF : F = some (.inl (E, ρ))) (hR : 5 < R.frames ∧ (rest.map fun v => v.category).sum + 82 ≤ R.locals ∧ cells + 1 ≤ R.cells ∧ slots + 6 ≤ R.slots) (hc : cells + 1 ≤ mc ∧ slots + 6 ≤ ms) :
    W p l e R s m args below meth c H locs cells slots (vx_MQ below Qc (kh_X D ca A ad F) args s mc ms A) (F0 m pc ls rest) := by
  obtain ⟨sa, hsa⟩ := hT.2.2.1 _ hq
  exact vx_throwS C.1 C.2.1 hl (names := kh_nm) C.2.2.2.1 hE (by decide +kernel) hk hini hsa (vx_hat (fun w h => hh.1 w h args) hB (vx_c (va_Nw.use rfl hh.2.1) (vx_c (va_Nw.use rfl hh.2.2.1) (vx_c (va_Nw.use rfl hh.2.2.2.1) (vx_c (va_Nw.use rfl hh.2.2.2.2) vx_n))))) hgood hT.1 hT.2.1 hS (hz.trans C.2.2.1.symm) d0 d3 d4 d6 d9 (fun x hx => (hout x hx).elim) hR.1 hR.2.1 hR.2.2.1 hR.2.2.2 hlocks (fun t _ h1 h2 => kh_xT hw hS hF t h1 h2) hS.2.2 hc.1 hc.2
theorem kh_throwW {β : Type} {Qc : Array Value → State → Outcome → State → Prop} {F : Option ((String × kh_S) ⊕ β)} (C : kh_C p s m args c cc nL RX4 Ts D ca A) (hl : l.stackTraces = false) (hT : kh_T A s) (hw : kh_w D ca A ad ρ H) (hS : va_S A s.heap H locs) (hz : ls.size = nL) (hout : ∀ x ∈ c.exceptionTable.toList, False) (hlocks : meth.locks = false) {E text : String} {ik is ic : Nat}
    (hh : kh_hat E ic s) (hq : (is, text) ∈ kh_strs) (hE : Bundle.fit E = true) (hgood : ∀ w ∈ Cond.classLink RX4 ik E :: Cond.initialized E :: vx_atS RX4 ic E kh_nm, vx_ot w = true) (hB : ∀ w ∈ (vx_atS RX4 ic E kh_nm).filter (fun w => !goodWord w), w ∈ kh_B E) (hk : (Cond.classLink RX4 ik E).before args s = true) (hini : (Cond.initialized E).before args s = true)
    (d0 : decode cc pc = .ok (.new ik, 3)) (d3 : decode cc (pc + 3) = .ok (.dup, 1)) (d4 : decode cc (pc + 4) = .ok (.ldc_w is, 3)) (d7 : decode cc (pc + 7) = .ok (.invokespecial ic, 3)) (d10 : decode cc (pc + 10) = .ok (.athrow, 1))
    (hF : F = some (.inl (E, ρ))) (hR : 5 < R.frames ∧ (rest.map fun v => v.category).sum + 82 ≤ R.locals ∧ cells + 1 ≤ R.cells ∧ slots + 6 ≤ R.slots) (hc : cells + 1 ≤ mc ∧ slots + 6 ≤ ms) :
    W p l e R s m args below meth c H locs cells slots (vx_MQ below Qc (kh_X D ca A ad F) args s mc ms A) (F0 m pc ls rest) := by
  obtain ⟨sa, hsa⟩ := hT.2.2.1 _ hq
  exact vx_throwSW C.1 C.2.1 hl (names := kh_nm) C.2.2.2.1 hE (by decide +kernel) hk hini hsa (vx_hat (fun w h => hh.1 w h args) hB (vx_c (va_Nw.use rfl hh.2.1) (vx_c (va_Nw.use rfl hh.2.2.1) (vx_c (va_Nw.use rfl hh.2.2.2.1) (vx_c (va_Nw.use rfl hh.2.2.2.2) vx_n))))) hgood hT.1 hT.2.1 hS (hz.trans C.2.2.1.symm) d0 d3 d4 d7 d10 (fun x hx => (hout x hx).elim) hR.1 hR.2.1 hR.2.2.1 hR.2.2.2 hlocks (fun t _ h1 h2 => kh_xT hw hS hF t h1 h2) hS.2.2 hc.1 hc.2
/-- a call that throws, a call that returns -/
theorem kh_xcallX {β : Type} {Qa : State → Outcome → State → Prop} {F : Option ((String × kh_S) ⊕ β)} {E : String} {ρ1 : kh_S} (hr : vx_Run p l e R s m args below meth c H locs cells slots mc ms (F0 m pc ls st0) rest Qa (kh_X D ca A ad F) A) (hS : va_S A s.heap H locs) (hF : F = some (.inl (E, ρ1)))
    (hQ : ∀ (st₀ : State) (v : Option Value) (t : State), ¬ Qa st₀ (.returned v) t)
    (kk : ∀ (H1 : Heap) (locs1 : List Loc) (ce : Cell) (q9 : Addr), kh_w D ca A ad ρ1 H1 → va_S A s.heap H1 locs1 → H1[q9]? = some ce → ce.vm = .none → s.vm.findClass E = some ce.cls → vx_W p l e R s m args below meth c H1 locs1 (cells + mc) (slots + ms) Q (F0 m pc ls rest) q9) : W p l e R s m args below meth c H locs cells slots Q (F0 m pc ls st0) := by
  intro T hT X
  rcases hr T hT X with ⟨v, st₀, t, T', L, h0, X', hL, e1, e2, hq, st⟩ | ⟨q, st₀, t, T', L, E9, ce, h0, X', hL, e1, e2, ⟨u, hp, hb, hF9⟩, hce, hcv, hcl, st⟩
  · exact absurd hq (hQ st₀ v t)
  · obtain ⟨k1, k2, k3⟩ := vx_keep h0 e1 hS (fun q _ h => h) (fun q h => h) hL hF9
    have h9 := hF.symm.trans hb.1
    obtain ⟨rfl, rfl⟩ := Prod.mk.inj (Sum.inl.inj (Option.some.inj h9))
    obtain ⟨t2, a1, b1⟩ := kk T'.heap (locs ++ L) ce q (by rw [e1]; exact hb.2) k3 (by rw [e1]; exact hce) hcv hcl T' rfl X'
    exact ⟨t2, st.trans a1, b1⟩
theorem kh_xcalli {F : Option ((String × kh_S) ⊕ (Int32 × kh_S))} {r : Int32} {ρ1 : kh_S} (hr : vx_Run p l e R s m args below meth c H locs cells slots mc ms (F0 m pc ls st0) rest (kh_Yi D ca A ad F a) (kh_X D ca A ad F) A) (hS : va_S A s.heap H locs) (hF : F = some (.inr (r, ρ1)))
    (kk : ∀ (H1 : Heap) (locs1 : List Loc), kh_w D ca A ad ρ1 H1 → va_S A s.heap H1 locs1 → W p l e R s m args below meth c H1 locs1 (cells + mc) (slots + ms) Q (F0 m (pc + 3) ls (.int r :: rest))) : W p l e R s m args below meth c H locs cells slots Q (F0 m pc ls st0) := by
  intro T hT X
  rcases hr T hT X with ⟨v, st₀, t, T', L, h0, X', hL, e1, e2, ⟨⟨r9, u, hv, hp, hb⟩, hF9⟩, st⟩ | ⟨q, st₀, t, T', L, E9, ce, h0, X', hL, e1, e2, ⟨u, hp, hb, hF9⟩, hce, hcv, hcl, st⟩
  · cases hv
    obtain ⟨k1, k2, k3⟩ := vx_keep h0 e1 hS (fun q _ h => h) (fun q h => h) hL hF9
    have h9 := hF.symm.trans hp
    obtain ⟨rfl, rfl⟩ := Prod.mk.inj (Sum.inr.inj (Option.some.inj h9))
    obtain ⟨t2, a1, b1⟩ := kk T'.heap (locs ++ L) (by rw [e1]; exact hb) k3 T' rfl X'
    exact ⟨t2, st t2 a1, b1⟩
  · exact absurd (hF.symm.trans hb.1) (fun z => nomatch z)
theorem kh_xcallv {F : Option ((String × kh_S) ⊕ kh_S)} {ρ1 : kh_S} (hr : vx_Run p l e R s m args below meth c H locs cells slots mc ms (F0 m pc ls st0) rest (kh_Yv D ca A ad F a) (kh_X D ca A ad F) A) (hS : va_S A s.heap H locs) (hF : F = some (.inr ρ1))
    (kk : ∀ (H1 : Heap) (locs1 : List Loc), kh_w D ca A ad ρ1 H1 → va_S A s.heap H1 locs1 → W p l e R s m args below meth c H1 locs1 (cells + mc) (slots + ms) Q (F0 m (pc + 3) ls rest)) : W p l e R s m args below meth c H locs cells slots Q (F0 m pc ls st0) := by
  intro T hT X
  rcases hr T hT X with ⟨v, st₀, t, T', L, h0, X', hL, e1, e2, ⟨⟨u, hv, hp, hb⟩, hF9⟩, st⟩ | ⟨q, st₀, t, T', L, E9, ce, h0, X', hL, e1, e2, ⟨u, hp, hb, hF9⟩, hce, hcv, hcl, st⟩
  · cases hv
    obtain ⟨k1, k2, k3⟩ := vx_keep h0 e1 hS (fun q _ h => h) (fun q h => h) hL hF9
    have h9 := hF.symm.trans hp
    obtain rfl := Sum.inr.inj (Option.some.inj h9)
    obtain ⟨t2, a1, b1⟩ := kk T'.heap (locs ++ L) (by rw [e1]; exact hb) k3 T' rfl X'
    exact ⟨t2, st t2 a1, b1⟩
  · exact absurd (hF.symm.trans hb.1) (fun z => nomatch z)
theorem kh_xcallq {F : Option ((String × kh_S) ⊕ (Int32 × kh_S))} {k : Nat} {r : Int32} {ρ1 : kh_S} (hr : vx_Run p l e R s m args below meth c H locs cells slots mc ms (F0 m pc ls st0) rest (kh_Yq D ca A ad k F a) (kh_X D ca A ad F) A) (hS : va_S A s.heap H locs) (hF : F = some (.inr (r, ρ1)))
    (kk : ∀ (H1 : Heap) (locs1 : List Loc), kh_w D ca A ad ρ1 H1 → va_S A s.heap H1 locs1 → W p l e R s m args below meth c H1 locs1 (cells + mc) (slots + ms) Q (F0 m (pc + 3) ls (va_rf (kh_rc ad k r) :: rest))) : W p l e R s m args below meth c H locs cells slots Q (F0 m pc ls st0) := by
  intro T hT X
  rcases hr T hT X with ⟨v, st₀, t, T', L, h0, X', hL, e1, e2, ⟨⟨r9, u, hv, ⟨hp0, hp⟩, hb⟩, hF9⟩, st⟩ | ⟨q, st₀, t, T', L, E9, ce, h0, X', hL, e1, e2, ⟨u, hp, hb, hF9⟩, hce, hcv, hcl, st⟩
  · cases hv
    obtain ⟨k1, k2, k3⟩ := vx_keep h0 e1 hS (fun q _ h => h) (fun q h => h) hL hF9
    have h9 := hF.symm.trans hp
    obtain rfl := Sum.inr.inj (Option.some.inj h9)
    subst hp0
    obtain ⟨t2, a1, b1⟩ := kk T'.heap (locs ++ L) (by rw [e1]; exact hb) k3 T' rfl X'
    exact ⟨t2, st t2 a1, b1⟩
  · exact absurd (hF.symm.trans hb.1) (fun z => nomatch z)
theorem kh_notYi {F : Option ((String × kh_S) ⊕ (Int32 × kh_S))} {e : String × kh_S} (hF : F = some (.inl e)) (st₀ : State) (v : Option Value) (t : State) : ¬ kh_Yi D ca A ad F a st₀ (.returned v) t := fun h => by
  obtain ⟨⟨r, u, -, hp, -⟩, -⟩ := h
  exact absurd (hF.symm.trans hp) (fun z => nomatch z)
theorem kh_notYv {F : Option ((String × kh_S) ⊕ kh_S)} {e : String × kh_S} (hF : F = some (.inl e)) (st₀ : State) (v : Option Value) (t : State) : ¬ kh_Yv D ca A ad F a st₀ (.returned v) t := fun h => by
  obtain ⟨⟨u, -, hp, -⟩, -⟩ := h
  exact absurd (hF.symm.trans hp) (fun z => nomatch z)
theorem kh_notYq {F : Option ((String × kh_S) ⊕ (Int32 × kh_S))} {k : Nat} {e : String × kh_S} (hF : F = some (.inl e)) (st₀ : State) (v : Option Value) (t : State) : ¬ kh_Yq D ca A ad k F a st₀ (.returned v) t := fun h => by
  obtain ⟨⟨r, u, -, ⟨-, hp⟩, -⟩, -⟩ := h
  exact absurd (hF.symm.trans hp) (fun z => nomatch z)
end KHX
section KHSW
variable {p : Program} {l : Launch} {e : Env} {R : Room} {s : State} {m : MethodId} {args : Array Value} {below : List Frame} {meth : Method} {c : Code} {H : Heap} {locs : List Loc} {cells slots : Nat} {Q : State → Prop}
variable {cc : ByteArray} {pc : Nat} {ls : Array Slot} {rest : List Value}
theorem kh_swIn (hx : p.tables.exec = Jvm.exec) (hb : c.code = cc) {dflt lo hi : Int} {offs : Array Int} {len : Nat} {x k : Int32} {off : Int} {tgt : Nat} (hdg : decode cc pc = .ok (.tableswitch dflt lo hi offs, len)) (h : x = k) (h1 : ¬ k.toInt < lo) (h2 : ¬ hi < k.toInt) (ho : offs[(k.toInt - lo).toNat]? = some off) (ht : (pc : Int) + off = (tgt : Int))
    (kk : W p l e R s m args below meth c H locs cells slots Q (F0 m tgt ls rest)) : W p l e R s m args below meth c H locs cells slots Q (F0 m pc ls (.int x :: rest)) := by
  subst h
  exact lv_tableIn hx hb hdg h1 h2 ho ht kk
end KHSW
theorem kh_swO {x : Int32} {lo hi : Int} (h : ∀ k : Int, lo ≤ k → k ≤ hi → ¬ x.toInt = k) : x.toInt < lo ∨ hi < x.toInt := by
  by_cases h1 : x.toInt < lo
  · exact Or.inl h1
  · by_cases h2 : hi < x.toInt
    · exact Or.inr h2
    · exact absurd rfl (h x.toInt (Int.not_lt.mp h1) (Int.not_lt.mp h2))
theorem kh_neT {x k : Int32} {n : Int} (h : ¬ x = k) (hk : k.toInt = n) : ¬ x.toInt = n := fun q => h (Int32.toInt_inj.mp (by rw [hk]; exact q))
theorem kh_hg1 : ∀ w ∈ Cond.classLink RX4 42 kh_E1 :: Cond.initialized kh_E1 :: vx_atS RX4 46 kh_E1 kh_nm, vx_ot w = true := by decide +kernel
theorem kh_hg2 : ∀ w ∈ Cond.classLink RX4 53 kh_E2 :: Cond.initialized kh_E2 :: vx_atS RX4 57 kh_E2 kh_nm, vx_ot w = true := by decide +kernel
theorem kh_hg3 : ∀ w ∈ Cond.classLink RX4 68 kh_E3 :: Cond.initialized kh_E3 :: vx_atS RX4 72 kh_E3 kh_nm, vx_ot w = true := by decide +kernel
theorem kh_hb1 : ∀ w ∈ (vx_atS RX4 46 kh_E1 kh_nm).filter (fun w => !goodWord w), w ∈ kh_B kh_E1 := by decide +kernel
theorem kh_hb2 : ∀ w ∈ (vx_atS RX4 57 kh_E2 kh_nm).filter (fun w => !goodWord w), w ∈ kh_B kh_E2 := by decide +kernel
theorem kh_hb3 : ∀ w ∈ (vx_atS RX4 72 kh_E3 kh_nm).filter (fun w => !goodWord w), w ∈ kh_B kh_E3 := by decide +kernel
