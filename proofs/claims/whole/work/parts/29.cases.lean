/-! the law's cases -/
def kh_At (p : Program) (l : Launch) (s : State) (m : MethodId) (b : Nat) (c : Code) (D : va_G) (ca : Nat → ClassId) (A : Nat → Prop) (L : Nat) (xs : Nat → Int32) : Prop :=
  kh_C p s m #[.ref b] c cL_law 7 RL wsL_law D ca A ∧ l.stackTraces = false ∧ kh_T A s ∧ kh_Nx s ∧ va_X b L xs s s.heap ∧ b < s.heap.size ∧ ¬ A b
abbrev kh_ll (b : Nat) (ad : Nat → Nat → Nat) (i : Int32) : List (Nat × Value) := [(0, .ref b), (1, .ref (ad 0 0)), (2, .ref (ad 15 0)), (3, .ref (ad 60 0)), (4, .int i)]
def kh_kk (p : Program) (l : Launch) (e : Env) (s : State) (m : MethodId) (b : Nat) (below : List Frame) (meth : Method) (c : Code) (cells slots : Nat) (Q : State → Prop) (D : va_G) (ca : Nat → ClassId) (A : Nat → Prop) (ad : Nat → Nat → Nat) (ρ ρ' : kh_S) (i : Int32) : Prop :=
  ∀ (ad2 : Nat → Nat → Nat) (H : Heap) (locs : List Loc) (ls : Array Slot), kh_ag ad ad2 ρ → kh_w D ca A ad2 ρ' H → va_S A s.heap H locs → kh_lv ls 7 (kh_ll b ad2 i) → W p l e room_1 s m #[.ref b] below meth c H locs (cells + 5) (slots + 45) Q (F0 m 1492 ls [])
theorem kh_cmp0 (x : Int64) : lg_cmp x x = 0 := by simp [lg_cmp]
section KHWM
variable {p : Program} {l : Launch} {e : Env} {R : Room} {s : State} {m : MethodId} {args : Array Value} {below : List Frame} {meth : Method} {c : Code} {H : Heap} {locs : List Loc} {cells slots mc ms : Nat} {Q : State → Prop}
variable {pc : Nat} {ls : Array Slot} {rest st0 : List Value} {D : va_G} {ca : Nat → ClassId} {A : Nat → Prop} {ad : Nat → Nat → Nat} {a : Array Value}
theorem kh_calliM {F : Option (Int32 × kh_S)} {r : Int32} {ρ1 : kh_S} (hr : va_Run p l e R s m args below meth c H locs cells slots mc ms (F0 m pc ls st0) rest (kh_Qi D ca A ad F a) A) (hS : va_S A s.heap H locs) (hF : F = some (r, ρ1))
    (kk : ∀ (H1 : Heap) (locs1 : List Loc), kh_w D ca A ad ρ1 H1 → va_S A s.heap H1 locs1 → W p l e R s m args below meth c H1 locs1 (cells + mc) (slots + ms) Q (F0 m (pc + 3) ls (.int r :: rest))) : W p l e R s m args below meth c H locs cells slots Q (F0 m pc ls st0) := by
  refine va_calli hr hS (fun q _ h => h) (fun q h => h) (fun r' u t H1 locs1 ht hvm hp hB hz hk hS1 => ?_)
  have h9 := hF.symm.trans hp
  obtain ⟨rfl, rfl⟩ := Prod.mk.inj (Option.some.inj h9)
  exact kk H1 locs1 (by rw [← ht]; exact hB) hS1
end KHWM
section KHW
variable {p : Program} {l : Launch} {e : Env} {s : State} {m : MethodId} {b : Nat} {below : List Frame} {meth : Method} {c : Code} {H : Heap} {locs : List Loc} {cells slots : Nat} {Q : State → Prop} {ls : Array Slot} {D : va_G} {ca : Nat → ClassId} {A : Nat → Prop} {ad : Nat → Nat → Nat} {ρ ρ' : kh_S} {L : Nat} {xs : Nat → Int32} {i a1 a2 a3 a4 a5 : Int32}

noncomputable def s_room (ρ : kh_S) (a1 : Int32) : Option kh_S := kh_bd2 (f_L_room ρ a1) (fun k ρ1 => kh_bd2 (f_X5_room ρ1 a1) (fun b ρ2 => kh_bd (f_X5_thrown ρ2) (fun t => kh_gd (decide (t = k) && (!decide (k = 0) || decide (ρ2 60 0 0 (0 : Int32).toNatClampNeg = b))) (some ρ2))))
set_option maxHeartbeats 4000000 in
set_option maxRecDepth 100000 in
theorem w_room (C0 : kh_At p l s m b c D ca A L xs) (hw : kh_w D ca A ad ρ H) (hS : va_S A s.heap H locs) (hl : kh_lv ls 7 (kh_ll b ad i)) (hc : cells + 5 ≤ 601024) (hs : slots + 45 ≤ 7293034) (h1 : kh_in (i + 1) L = true) (e1 : xs (i + 1).toNatClampNeg = a1) (hF : s_room ρ a1 = some ρ') (kk : kh_kk p l e s m b below meth c cells slots Q D ca A ad ρ ρ' i) : W p l e room_1 s m #[.ref b] below meth c H locs cells slots Q (F0 m 144 ls []) := by
  obtain ⟨C, hlt, hT, hN, hX, hbl, hbA⟩ := C0
  unfold s_room at hF
  have hl : kh_lv ls 7 [(0, .ref b), (1, .ref (ad 0 0)), (2, .ref (ad 15 0)), (3, .ref (ad 60 0)), (4, .int i)] := hl
  refine lv_aload_n C.1 C.2.1 dL_law_144 rfl (kh_at hl 1 rfl) ?_
  refine lv_aload_n C.1 C.2.1 dL_law_145 rfl (kh_at hl 0 rfl) ?_
  refine lv_iload C.1 C.2.1 dL_law_146 (kh_at hl 4 rfl) ?_
  refine lv_iconst (v := (1 : Int32)) C.1 C.2.1 dL_law_148 (by decide) ?_
  refine lv_iadd C.1 C.2.1 dL_law_149 ?_
  refine va_sld C.1 C.2.1 hX hbl hbA hS (kh_in_vp h1) dL_law_150 ?_
  rw [e1]
  refine lv_aload_n C.1 C.2.1 dL_law_151 rfl (kh_at hl 3 rfl) ?_
  obtain ⟨k, ρ1, f1, hF⟩ := kh_bd2_ok hF
  refine kh_callN (vx_runSW (As := [.ref (ad 0 0), .int a1, .ref (ad 60 0)]) (rest := []) ⟨C.1, C.2.1, C.2.2.1, C.2.2.2.1, C.2.2.2.2.1⟩ (c_L_room l hlt D ca A ad ρ a1 f1) (vx_cwSW 3 C.2.2.2.2.1 gL_law_L_room rfl rfl rfl (by decide +kernel) ⟨Nat.le_of_ble_eq_true rfl, Nat.le_of_ble_eq_true rfl⟩) ⟨kh_blindN, fun U hU hW => ⟨rfl, (kh_preJ C hT hw hS (as := [.ref (ad 0 0), .int a1, .ref (ad 60 0)]) U hU hW).2, hN.moved hW.alike⟩⟩ rfl rfl hl.1.1 rfl (lv_room (kh_sum kh_an (Nat.le_of_ble_eq_true rfl))) dL_law_152 ⟨by show cells + 5 ≤ 601024; omega, by show slots + 45 ≤ 7293034; omega⟩) hS f1 (fun ad2 H locs hag hw hS => ?_)
  have hl : kh_lv ls 7 [(0, .ref b), (1, .ref (ad2 0 0)), (2, .ref (ad2 15 0)), (3, .ref (ad2 60 0)), (4, .int i)] := by
    rw [hag 0 0 (kh_z0 ρ), hag 15 0 (kh_z15 ρ), hag 60 0 (kh_z60 ρ)]
    exact hl
  refine W.widen (k := cells + 5) (n := slots + 45) (Nat.add_le_add_left (Nat.le_of_ble_eq_true rfl) _) (Nat.add_le_add_left (Nat.le_of_ble_eq_true rfl) _) ?_
  refine kh_istore (lv' := [(5, .int k), (0, .ref b), (1, .ref (ad2 0 0)), (2, .ref (ad2 15 0)), (3, .ref (ad2 60 0)), (4, .int i)]) C.1 C.2.1 dL_law_155 hl (by decide) rfl (fun ls hl => ?_)
  refine lv_aload_n C.1 C.2.1 dL_law_157 rfl (kh_at hl 3 rfl) ?_
  refine lv_aload_n C.1 C.2.1 dL_law_158 rfl (kh_at hl 1 rfl) ?_
  refine lv_iload C.1 C.2.1 dL_law_159 (kh_at hl 5 rfl) ?_
  refine lv_iconst (v := (1 : Int32)) C.1 C.2.1 dL_law_161 (by decide) ?_
  refine lv_iadd C.1 C.2.1 dL_law_162 ?_
  refine va_sld C.1 C.2.1 hX hbl hbA hS (kh_in_vp h1) dL_law_163 ?_
  rw [e1]
  obtain ⟨u, ρ2, f2, hF⟩ := kh_bd2_ok hF
  refine kh_calli (va_runV (As := [.int a1]) (rest := []) ⟨C.1, C.2.1, C.2.2.1, C.2.2.2.1, C.2.2.2.2.1⟩ (c_X5_room l D ca A ad2 ρ1 a1 f2) (cwV 1 C.2.2.2.2.1 gL_law_X5_room rfl rfl rfl (by decide +kernel) ⟨Nat.le_of_ble_eq_true rfl, Nat.le_of_ble_eq_true rfl⟩) (kh_preV C hw hS 15 (kh_z15 ρ1) kh_kd15 rfl) rfl rfl hl.1.1 rfl (lv_room (kh_sum kh_an (Nat.le_of_ble_eq_true rfl))) dL_law_164 ⟨by show cells + 5 + 0 ≤ 601024; omega, by show slots + 45 + 0 ≤ 7293034; omega⟩) hS f2 (fun H locs hw hS => ?_)
  refine kh_istore (lv' := [(6, .int u), (5, .int k), (0, .ref b), (1, .ref (ad2 0 0)), (2, .ref (ad2 15 0)), (3, .ref (ad2 60 0)), (4, .int i)]) C.1 C.2.1 dL_law_167 hl (by decide) rfl (fun ls hl => ?_)
  refine lv_aload_n C.1 C.2.1 dL_law_169 rfl (kh_at hl 4 rfl) ?_
  obtain ⟨t, f3, hF⟩ := kh_bd_ok hF
  refine kh_calli (va_runV (As := []) (rest := []) ⟨C.1, C.2.1, C.2.2.1, C.2.2.2.1, C.2.2.2.2.1⟩ (c_X5_thrown l D ca A ad2 ρ2 f3) (cwV 0 C.2.2.2.2.1 gL_law_X5_thrown rfl rfl rfl (by decide +kernel) ⟨Nat.le_of_ble_eq_true rfl, Nat.le_of_ble_eq_true rfl⟩) (kh_preV C hw hS 15 (kh_z15 ρ2) kh_kd15 rfl) rfl rfl hl.1.1 rfl (lv_room (kh_sum kh_an (Nat.le_of_ble_eq_true rfl))) dL_law_170 ⟨by show cells + 5 + 0 ≤ 601024; omega, by show slots + 45 + 0 ≤ 7293034; omega⟩) hS (kh_mp f3) (fun H locs hw hS => ?_)
  obtain ⟨g1, hF⟩ := kh_gd_ok hF
  obtain rfl := Option.some.inj hF
  simp only [Bool.and_eq_true, Bool.or_eq_true, Bool.not_eq_true', decide_eq_true_eq, decide_eq_false_iff_not] at g1
  obtain ⟨g1, g2⟩ := g1
  refine lv_iload C.1 C.2.1 dL_law_173 (kh_at hl 1 rfl) ?_
  refine lv_icmp_eq (tgt := 180) C.1 C.2.1 dL_law_175 (by decide) (fun _ => ?_) (fun c9 => absurd g1 c9)
  refine lv_iload C.1 C.2.1 dL_law_180 (kh_at hl 1 rfl) ?_
  refine lv_if_ne (tgt := 197) C.1 C.2.1 dL_law_182 (by decide) (fun c9 => ?_) (fun c9 => ?_)
  · refine lv_goto (tgt := 1492) C.1 C.2.1 dL_law_197 (by decide) ?_
    exact kk _ _ _ _ hag hw hS (kh_sub hl [2, 3, 4, 5, 6] rfl)
  have g3 := g2.resolve_left (fun z => z c9)
  refine lv_aload_n C.1 C.2.1 dL_law_185 rfl (kh_at hl 5 rfl) ?_
  refine lv_iconst (v := (0 : Int32)) C.1 C.2.1 dL_law_186 (by decide) ?_
  refine kh_lald C hw 60 rfl (kh_z60 ρ2) kh_kd60 (by decide) dL_law_187 ?_
  rw [g3]
  refine lv_iload C.1 C.2.1 dL_law_188 (kh_at hl 0 rfl) ?_
  refine lv_i2l (v := u.toInt64) C.1 C.2.1 dL_law_190 rfl ?_
  refine W.lcmp C.1 C.2.1 dL_law_191 ?_
  rw [kh_cmp0]
  refine lv_if_eq (tgt := 197) C.1 C.2.1 dL_law_192 (by decide) (fun _ => ?_) (fun c9 => absurd rfl c9)
  refine lv_goto (tgt := 1492) C.1 C.2.1 dL_law_197 (by decide) ?_
  exact kk _ _ _ _ hag hw hS (kh_sub hl [2, 3, 4, 5, 6] rfl)

def s_puzzle (ρ : kh_S) (a1 : Int32) (a2 : Int32) (a3 : Int32) (a4 : Int32) (a5 : Int32) : Option kh_S := kh_bd2 (f_L_puzzle ρ a1 a2 a3 a4 a5) (fun k ρ1 => kh_bd2 (f_X5_puzzle ρ1 a1 a2 a3 a4 a5) (fun b ρ2 => kh_bd (f_X5_thrown ρ2) (fun t => kh_gd (decide (t = k) && (!decide (k = 0) || decide (ρ2 60 0 0 (0 : Int32).toNatClampNeg = b))) (some ρ2))))
set_option maxHeartbeats 4000000 in
set_option maxRecDepth 100000 in
theorem w_puzzle (C0 : kh_At p l s m b c D ca A L xs) (hw : kh_w D ca A ad ρ H) (hS : va_S A s.heap H locs) (hl : kh_lv ls 7 (kh_ll b ad i)) (hc : cells + 5 ≤ 601024) (hs : slots + 45 ≤ 7293034) (h1 : kh_in (i + 1) L = true) (e1 : xs (i + 1).toNatClampNeg = a1) (h2 : kh_in (i + 2) L = true) (e2 : xs (i + 2).toNatClampNeg = a2) (h3 : kh_in (i + 3) L = true) (e3 : xs (i + 3).toNatClampNeg = a3) (h4 : kh_in (i + 4) L = true) (e4 : xs (i + 4).toNatClampNeg = a4) (h5 : kh_in (i + 5) L = true) (e5 : xs (i + 5).toNatClampNeg = a5) (hF : s_puzzle ρ a1 a2 a3 a4 a5 = some ρ') (kk : kh_kk p l e s m b below meth c cells slots Q D ca A ad ρ ρ' i) : W p l e room_1 s m #[.ref b] below meth c H locs cells slots Q (F0 m 200 ls []) := by
  obtain ⟨C, hlt, hT, hN, hX, hbl, hbA⟩ := C0
  unfold s_puzzle at hF
  have hl : kh_lv ls 7 [(0, .ref b), (1, .ref (ad 0 0)), (2, .ref (ad 15 0)), (3, .ref (ad 60 0)), (4, .int i)] := hl
  refine lv_aload_n C.1 C.2.1 dL_law_200 rfl (kh_at hl 1 rfl) ?_
  refine lv_aload_n C.1 C.2.1 dL_law_201 rfl (kh_at hl 0 rfl) ?_
  refine lv_iload C.1 C.2.1 dL_law_202 (kh_at hl 4 rfl) ?_
  refine lv_iconst (v := (1 : Int32)) C.1 C.2.1 dL_law_204 (by decide) ?_
  refine lv_iadd C.1 C.2.1 dL_law_205 ?_
  refine va_sld C.1 C.2.1 hX hbl hbA hS (kh_in_vp h1) dL_law_206 ?_
  rw [e1]
  refine lv_aload_n C.1 C.2.1 dL_law_207 rfl (kh_at hl 0 rfl) ?_
  refine lv_iload C.1 C.2.1 dL_law_208 (kh_at hl 4 rfl) ?_
  refine lv_iconst (v := (2 : Int32)) C.1 C.2.1 dL_law_210 (by decide) ?_
  refine lv_iadd C.1 C.2.1 dL_law_211 ?_
  refine va_sld C.1 C.2.1 hX hbl hbA hS (kh_in_vp h2) dL_law_212 ?_
  rw [e2]
  refine lv_aload_n C.1 C.2.1 dL_law_213 rfl (kh_at hl 0 rfl) ?_
  refine lv_iload C.1 C.2.1 dL_law_214 (kh_at hl 4 rfl) ?_
  refine lv_iconst (v := (3 : Int32)) C.1 C.2.1 dL_law_216 (by decide) ?_
  refine lv_iadd C.1 C.2.1 dL_law_217 ?_
  refine va_sld C.1 C.2.1 hX hbl hbA hS (kh_in_vp h3) dL_law_218 ?_
  rw [e3]
  refine lv_aload_n C.1 C.2.1 dL_law_219 rfl (kh_at hl 0 rfl) ?_
  refine lv_iload C.1 C.2.1 dL_law_220 (kh_at hl 4 rfl) ?_
  refine lv_iconst (v := (4 : Int32)) C.1 C.2.1 dL_law_222 (by decide) ?_
  refine lv_iadd C.1 C.2.1 dL_law_223 ?_
  refine va_sld C.1 C.2.1 hX hbl hbA hS (kh_in_vp h4) dL_law_224 ?_
  rw [e4]
  refine lv_aload_n C.1 C.2.1 dL_law_225 rfl (kh_at hl 0 rfl) ?_
  refine lv_iload C.1 C.2.1 dL_law_226 (kh_at hl 4 rfl) ?_
  refine lv_iconst (v := (5 : Int32)) C.1 C.2.1 dL_law_228 (by decide) ?_
  refine lv_iadd C.1 C.2.1 dL_law_229 ?_
  refine va_sld C.1 C.2.1 hX hbl hbA hS (kh_in_vp h5) dL_law_230 ?_
  rw [e5]
  refine lv_aload_n C.1 C.2.1 dL_law_231 rfl (kh_at hl 3 rfl) ?_
  obtain ⟨k, ρ1, f1, hF⟩ := kh_bd2_ok hF
  refine kh_calliM (vx_runSW (As := [.ref (ad 0 0), .int a1, .int a2, .int a3, .int a4, .int a5, .ref (ad 60 0)]) (rest := []) ⟨C.1, C.2.1, C.2.2.1, C.2.2.2.1, C.2.2.2.2.1⟩ (c_L_puzzle l hlt D ca A ad ρ a1 a2 a3 a4 a5 f1) (vx_cwSW 7 C.2.2.2.2.1 gL_law_L_puzzle rfl rfl rfl (by decide +kernel) ⟨Nat.le_of_ble_eq_true rfl, Nat.le_of_ble_eq_true rfl⟩) ⟨kh_blindN, fun U hU hW => ⟨rfl, (kh_preJ C hT hw hS (as := [.ref (ad 0 0), .int a1, .int a2, .int a3, .int a4, .int a5, .ref (ad 60 0)]) U hU hW).2, hN.moved hW.alike⟩⟩ rfl rfl hl.1.1 rfl (lv_room (kh_sum kh_an (Nat.le_of_ble_eq_true rfl))) dL_law_232 ⟨by show cells + 2 ≤ 601024; omega, by show slots + 12 ≤ 7293034; omega⟩) hS f1 (fun H locs hw hS => ?_)
  refine W.widen (k := cells + 5) (n := slots + 45) (Nat.add_le_add_left (Nat.le_of_ble_eq_true rfl) _) (Nat.add_le_add_left (Nat.le_of_ble_eq_true rfl) _) ?_
  refine kh_istore (lv' := [(5, .int k), (0, .ref b), (1, .ref (ad 0 0)), (2, .ref (ad 15 0)), (3, .ref (ad 60 0)), (4, .int i)]) C.1 C.2.1 dL_law_235 hl (by decide) rfl (fun ls hl => ?_)
  refine lv_aload_n C.1 C.2.1 dL_law_237 rfl (kh_at hl 3 rfl) ?_
  refine lv_aload_n C.1 C.2.1 dL_law_238 rfl (kh_at hl 1 rfl) ?_
  refine lv_iload C.1 C.2.1 dL_law_239 (kh_at hl 5 rfl) ?_
  refine lv_iconst (v := (1 : Int32)) C.1 C.2.1 dL_law_241 (by decide) ?_
  refine lv_iadd C.1 C.2.1 dL_law_242 ?_
  refine va_sld C.1 C.2.1 hX hbl hbA hS (kh_in_vp h1) dL_law_243 ?_
  rw [e1]
  refine lv_aload_n C.1 C.2.1 dL_law_244 rfl (kh_at hl 1 rfl) ?_
  refine lv_iload C.1 C.2.1 dL_law_245 (kh_at hl 5 rfl) ?_
  refine lv_iconst (v := (2 : Int32)) C.1 C.2.1 dL_law_247 (by decide) ?_
  refine lv_iadd C.1 C.2.1 dL_law_248 ?_
  refine va_sld C.1 C.2.1 hX hbl hbA hS (kh_in_vp h2) dL_law_249 ?_
  rw [e2]
  refine lv_aload_n C.1 C.2.1 dL_law_250 rfl (kh_at hl 1 rfl) ?_
  refine lv_iload C.1 C.2.1 dL_law_251 (kh_at hl 5 rfl) ?_
  refine lv_iconst (v := (3 : Int32)) C.1 C.2.1 dL_law_253 (by decide) ?_
  refine lv_iadd C.1 C.2.1 dL_law_254 ?_
  refine va_sld C.1 C.2.1 hX hbl hbA hS (kh_in_vp h3) dL_law_255 ?_
  rw [e3]
  refine lv_aload_n C.1 C.2.1 dL_law_256 rfl (kh_at hl 1 rfl) ?_
  refine lv_iload C.1 C.2.1 dL_law_257 (kh_at hl 5 rfl) ?_
  refine lv_iconst (v := (4 : Int32)) C.1 C.2.1 dL_law_259 (by decide) ?_
  refine lv_iadd C.1 C.2.1 dL_law_260 ?_
  refine va_sld C.1 C.2.1 hX hbl hbA hS (kh_in_vp h4) dL_law_261 ?_
  rw [e4]
  refine lv_aload_n C.1 C.2.1 dL_law_262 rfl (kh_at hl 1 rfl) ?_
  refine lv_iload C.1 C.2.1 dL_law_263 (kh_at hl 5 rfl) ?_
  refine lv_iconst (v := (5 : Int32)) C.1 C.2.1 dL_law_265 (by decide) ?_
  refine lv_iadd C.1 C.2.1 dL_law_266 ?_
  refine va_sld C.1 C.2.1 hX hbl hbA hS (kh_in_vp h5) dL_law_267 ?_
  rw [e5]
  obtain ⟨u, ρ2, f2, hF⟩ := kh_bd2_ok hF
  refine kh_calli (va_runV (As := [.int a1, .int a2, .int a3, .int a4, .int a5]) (rest := []) ⟨C.1, C.2.1, C.2.2.1, C.2.2.2.1, C.2.2.2.2.1⟩ (c_X5_puzzle l D ca A ad ρ1 a1 a2 a3 a4 a5 f2) (cwV 5 C.2.2.2.2.1 gL_law_X5_puzzle rfl rfl rfl (by decide +kernel) ⟨Nat.le_of_ble_eq_true rfl, Nat.le_of_ble_eq_true rfl⟩) (kh_preV C hw hS 15 (kh_z15 ρ1) kh_kd15 rfl) rfl rfl hl.1.1 rfl (lv_room (kh_sum kh_an (Nat.le_of_ble_eq_true rfl))) dL_law_268 ⟨by show cells + 5 + 0 ≤ 601024; omega, by show slots + 45 + 0 ≤ 7293034; omega⟩) hS f2 (fun H locs hw hS => ?_)
  refine kh_istore (lv' := [(6, .int u), (5, .int k), (0, .ref b), (1, .ref (ad 0 0)), (2, .ref (ad 15 0)), (3, .ref (ad 60 0)), (4, .int i)]) C.1 C.2.1 dL_law_271 hl (by decide) rfl (fun ls hl => ?_)
  refine lv_aload_n C.1 C.2.1 dL_law_273 rfl (kh_at hl 4 rfl) ?_
  obtain ⟨t, f3, hF⟩ := kh_bd_ok hF
  refine kh_calli (va_runV (As := []) (rest := []) ⟨C.1, C.2.1, C.2.2.1, C.2.2.2.1, C.2.2.2.2.1⟩ (c_X5_thrown l D ca A ad ρ2 f3) (cwV 0 C.2.2.2.2.1 gL_law_X5_thrown rfl rfl rfl (by decide +kernel) ⟨Nat.le_of_ble_eq_true rfl, Nat.le_of_ble_eq_true rfl⟩) (kh_preV C hw hS 15 (kh_z15 ρ2) kh_kd15 rfl) rfl rfl hl.1.1 rfl (lv_room (kh_sum kh_an (Nat.le_of_ble_eq_true rfl))) dL_law_274 ⟨by show cells + 5 + 0 ≤ 601024; omega, by show slots + 45 + 0 ≤ 7293034; omega⟩) hS (kh_mp f3) (fun H locs hw hS => ?_)
  obtain ⟨g1, hF⟩ := kh_gd_ok hF
  obtain rfl := Option.some.inj hF
  simp only [Bool.and_eq_true, Bool.or_eq_true, Bool.not_eq_true', decide_eq_true_eq, decide_eq_false_iff_not] at g1
  obtain ⟨g1, g2⟩ := g1
  refine lv_iload C.1 C.2.1 dL_law_277 (kh_at hl 1 rfl) ?_
  refine lv_icmp_eq (tgt := 284) C.1 C.2.1 dL_law_279 (by decide) (fun _ => ?_) (fun c9 => absurd g1 c9)
  refine lv_iload C.1 C.2.1 dL_law_284 (kh_at hl 1 rfl) ?_
  refine lv_if_ne (tgt := 301) C.1 C.2.1 dL_law_286 (by decide) (fun c9 => ?_) (fun c9 => ?_)
  · refine lv_goto (tgt := 1492) C.1 C.2.1 dL_law_301 (by decide) ?_
    exact kk _ _ _ _ (kh_agr _ _) hw hS (kh_sub hl [2, 3, 4, 5, 6] rfl)
  have g3 := g2.resolve_left (fun z => z c9)
  refine lv_aload_n C.1 C.2.1 dL_law_289 rfl (kh_at hl 5 rfl) ?_
  refine lv_iconst (v := (0 : Int32)) C.1 C.2.1 dL_law_290 (by decide) ?_
  refine kh_lald C hw 60 rfl (kh_z60 ρ2) kh_kd60 (by decide) dL_law_291 ?_
  rw [g3]
  refine lv_iload C.1 C.2.1 dL_law_292 (kh_at hl 0 rfl) ?_
  refine lv_i2l (v := u.toInt64) C.1 C.2.1 dL_law_294 rfl ?_
  refine W.lcmp C.1 C.2.1 dL_law_295 ?_
  rw [kh_cmp0]
  refine lv_if_eq (tgt := 301) C.1 C.2.1 dL_law_296 (by decide) (fun _ => ?_) (fun c9 => absurd rfl c9)
  refine lv_goto (tgt := 1492) C.1 C.2.1 dL_law_301 (by decide) ?_
  exact kk _ _ _ _ (kh_agr _ _) hw hS (kh_sub hl [2, 3, 4, 5, 6] rfl)

def s_prop (ρ : kh_S) (a1 : Int32) (a2 : Int32) : Option kh_S := kh_bd2 (f_L_prop ρ a1 (if a2 = 0 then (0 : Int32) else 1)) (fun k ρ1 => kh_bd2 (f_X5_prop ρ1 a1 (if a2 = 0 then (0 : Int32) else 1)) (fun b ρ2 => kh_bd (f_X5_thrown ρ2) (fun t => kh_gd (decide (t = k) && (!decide (k = 0) || decide (ρ2 60 0 0 (0 : Int32).toNatClampNeg = b))) (some ρ2))))
set_option maxHeartbeats 4000000 in
set_option maxRecDepth 100000 in
theorem w_prop (C0 : kh_At p l s m b c D ca A L xs) (hw : kh_w D ca A ad ρ H) (hS : va_S A s.heap H locs) (hl : kh_lv ls 7 (kh_ll b ad i)) (hc : cells + 5 ≤ 601024) (hs : slots + 45 ≤ 7293034) (h1 : kh_in (i + 1) L = true) (e1 : xs (i + 1).toNatClampNeg = a1) (h2 : kh_in (i + 2) L = true) (e2 : xs (i + 2).toNatClampNeg = a2) (hF : s_prop ρ a1 a2 = some ρ') (kk : kh_kk p l e s m b below meth c cells slots Q D ca A ad ρ ρ' i) : W p l e room_1 s m #[.ref b] below meth c H locs cells slots Q (F0 m 304 ls []) := by
  obtain ⟨C, hlt, hT, hN, hX, hbl, hbA⟩ := C0
  unfold s_prop at hF
  have hl : kh_lv ls 7 [(0, .ref b), (1, .ref (ad 0 0)), (2, .ref (ad 15 0)), (3, .ref (ad 60 0)), (4, .int i)] := hl
  by_cases z2 : a2 = 0
  · rw [if_pos z2] at hF
    refine lv_aload_n C.1 C.2.1 dL_law_304 rfl (kh_at hl 1 rfl) ?_
    refine lv_aload_n C.1 C.2.1 dL_law_305 rfl (kh_at hl 0 rfl) ?_
    refine lv_iload C.1 C.2.1 dL_law_306 (kh_at hl 4 rfl) ?_
    refine lv_iconst (v := (1 : Int32)) C.1 C.2.1 dL_law_308 (by decide) ?_
    refine lv_iadd C.1 C.2.1 dL_law_309 ?_
    refine va_sld C.1 C.2.1 hX hbl hbA hS (kh_in_vp h1) dL_law_310 ?_
    rw [e1]
    refine lv_aload_n C.1 C.2.1 dL_law_311 rfl (kh_at hl 0 rfl) ?_
    refine lv_iload C.1 C.2.1 dL_law_312 (kh_at hl 4 rfl) ?_
    refine lv_iconst (v := (2 : Int32)) C.1 C.2.1 dL_law_314 (by decide) ?_
    refine lv_iadd C.1 C.2.1 dL_law_315 ?_
    refine va_sld C.1 C.2.1 hX hbl hbA hS (kh_in_vp h2) dL_law_316 ?_
    rw [e2]
    refine lv_if_eq (tgt := 324) C.1 C.2.1 dL_law_317 (by decide) (fun _ => ?_) (fun c9 => absurd z2 c9)
    refine lv_iconst (v := (0 : Int32)) C.1 C.2.1 dL_law_324 (by decide) ?_
    refine lv_aload_n C.1 C.2.1 dL_law_325 rfl (kh_at hl 3 rfl) ?_
    obtain ⟨k, ρ1, f1, hF⟩ := kh_bd2_ok hF
    refine kh_calliM (vx_runSW (As := [.ref (ad 0 0), .int a1, .int (0 : Int32), .ref (ad 60 0)]) (rest := []) ⟨C.1, C.2.1, C.2.2.1, C.2.2.2.1, C.2.2.2.2.1⟩ (c_L_prop l hlt D ca A ad ρ a1 (0 : Int32) f1) (vx_cwSW 4 C.2.2.2.2.1 gL_law_L_prop rfl rfl rfl (by decide +kernel) ⟨Nat.le_of_ble_eq_true rfl, Nat.le_of_ble_eq_true rfl⟩) ⟨kh_blindN, fun U hU hW => ⟨rfl, (kh_preJ C hT hw hS (as := [.ref (ad 0 0), .int a1, .int (0 : Int32), .ref (ad 60 0)]) U hU hW).2, hN.moved hW.alike⟩⟩ rfl rfl hl.1.1 rfl (lv_room (kh_sum kh_an (Nat.le_of_ble_eq_true rfl))) dL_law_326 ⟨by show cells + 1 ≤ 601024; omega, by show slots + 6 ≤ 7293034; omega⟩) hS f1 (fun H locs hw hS => ?_)
    refine W.widen (k := cells + 5) (n := slots + 45) (Nat.add_le_add_left (Nat.le_of_ble_eq_true rfl) _) (Nat.add_le_add_left (Nat.le_of_ble_eq_true rfl) _) ?_
    refine kh_istore (lv' := [(5, .int k), (0, .ref b), (1, .ref (ad 0 0)), (2, .ref (ad 15 0)), (3, .ref (ad 60 0)), (4, .int i)]) C.1 C.2.1 dL_law_329 hl (by decide) rfl (fun ls hl => ?_)
    refine lv_aload_n C.1 C.2.1 dL_law_331 rfl (kh_at hl 3 rfl) ?_
    refine lv_aload_n C.1 C.2.1 dL_law_332 rfl (kh_at hl 1 rfl) ?_
    refine lv_iload C.1 C.2.1 dL_law_333 (kh_at hl 5 rfl) ?_
    refine lv_iconst (v := (1 : Int32)) C.1 C.2.1 dL_law_335 (by decide) ?_
    refine lv_iadd C.1 C.2.1 dL_law_336 ?_
    refine va_sld C.1 C.2.1 hX hbl hbA hS (kh_in_vp h1) dL_law_337 ?_
    rw [e1]
    refine lv_aload_n C.1 C.2.1 dL_law_338 rfl (kh_at hl 1 rfl) ?_
    refine lv_iload C.1 C.2.1 dL_law_339 (kh_at hl 5 rfl) ?_
    refine lv_iconst (v := (2 : Int32)) C.1 C.2.1 dL_law_341 (by decide) ?_
    refine lv_iadd C.1 C.2.1 dL_law_342 ?_
    refine va_sld C.1 C.2.1 hX hbl hbA hS (kh_in_vp h2) dL_law_343 ?_
    rw [e2]
    refine lv_if_eq (tgt := 351) C.1 C.2.1 dL_law_344 (by decide) (fun _ => ?_) (fun c9 => absurd z2 c9)
    refine lv_iconst (v := (0 : Int32)) C.1 C.2.1 dL_law_351 (by decide) ?_
    obtain ⟨u, ρ2, f2, hF⟩ := kh_bd2_ok hF
    refine kh_calli (va_runV (As := [.int a1, .int (0 : Int32)]) (rest := []) ⟨C.1, C.2.1, C.2.2.1, C.2.2.2.1, C.2.2.2.2.1⟩ (c_X5_prop l D ca A ad ρ1 a1 (0 : Int32) f2) (cwV 2 C.2.2.2.2.1 gL_law_X5_prop rfl rfl rfl (by decide +kernel) ⟨Nat.le_of_ble_eq_true rfl, Nat.le_of_ble_eq_true rfl⟩) (kh_preV C hw hS 15 (kh_z15 ρ1) kh_kd15 rfl) rfl rfl hl.1.1 rfl (lv_room (kh_sum kh_an (Nat.le_of_ble_eq_true rfl))) dL_law_352 ⟨by show cells + 5 + 0 ≤ 601024; omega, by show slots + 45 + 0 ≤ 7293034; omega⟩) hS f2 (fun H locs hw hS => ?_)
    refine kh_istore (lv' := [(6, .int u), (5, .int k), (0, .ref b), (1, .ref (ad 0 0)), (2, .ref (ad 15 0)), (3, .ref (ad 60 0)), (4, .int i)]) C.1 C.2.1 dL_law_355 hl (by decide) rfl (fun ls hl => ?_)
    refine lv_aload_n C.1 C.2.1 dL_law_357 rfl (kh_at hl 4 rfl) ?_
    obtain ⟨t, f3, hF⟩ := kh_bd_ok hF
    refine kh_calli (va_runV (As := []) (rest := []) ⟨C.1, C.2.1, C.2.2.1, C.2.2.2.1, C.2.2.2.2.1⟩ (c_X5_thrown l D ca A ad ρ2 f3) (cwV 0 C.2.2.2.2.1 gL_law_X5_thrown rfl rfl rfl (by decide +kernel) ⟨Nat.le_of_ble_eq_true rfl, Nat.le_of_ble_eq_true rfl⟩) (kh_preV C hw hS 15 (kh_z15 ρ2) kh_kd15 rfl) rfl rfl hl.1.1 rfl (lv_room (kh_sum kh_an (Nat.le_of_ble_eq_true rfl))) dL_law_358 ⟨by show cells + 5 + 0 ≤ 601024; omega, by show slots + 45 + 0 ≤ 7293034; omega⟩) hS (kh_mp f3) (fun H locs hw hS => ?_)
    obtain ⟨g1, hF⟩ := kh_gd_ok hF
    obtain rfl := Option.some.inj hF
    simp only [Bool.and_eq_true, Bool.or_eq_true, Bool.not_eq_true', decide_eq_true_eq, decide_eq_false_iff_not] at g1
    obtain ⟨g1, g2⟩ := g1
    refine lv_iload C.1 C.2.1 dL_law_361 (kh_at hl 1 rfl) ?_
    refine lv_icmp_eq (tgt := 368) C.1 C.2.1 dL_law_363 (by decide) (fun _ => ?_) (fun c9 => absurd g1 c9)
    refine lv_iload C.1 C.2.1 dL_law_368 (kh_at hl 1 rfl) ?_
    refine lv_if_ne (tgt := 385) C.1 C.2.1 dL_law_370 (by decide) (fun c9 => ?_) (fun c9 => ?_)
    · refine lv_goto (tgt := 1492) C.1 C.2.1 dL_law_385 (by decide) ?_
      exact kk _ _ _ _ (kh_agr _ _) hw hS (kh_sub hl [2, 3, 4, 5, 6] rfl)
    have g3 := g2.resolve_left (fun z => z c9)
    refine lv_aload_n C.1 C.2.1 dL_law_373 rfl (kh_at hl 5 rfl) ?_
    refine lv_iconst (v := (0 : Int32)) C.1 C.2.1 dL_law_374 (by decide) ?_
    refine kh_lald C hw 60 rfl (kh_z60 ρ2) kh_kd60 (by decide) dL_law_375 ?_
    rw [g3]
    refine lv_iload C.1 C.2.1 dL_law_376 (kh_at hl 0 rfl) ?_
    refine lv_i2l (v := u.toInt64) C.1 C.2.1 dL_law_378 rfl ?_
    refine W.lcmp C.1 C.2.1 dL_law_379 ?_
    rw [kh_cmp0]
    refine lv_if_eq (tgt := 385) C.1 C.2.1 dL_law_380 (by decide) (fun _ => ?_) (fun c9 => absurd rfl c9)
    refine lv_goto (tgt := 1492) C.1 C.2.1 dL_law_385 (by decide) ?_
    exact kk _ _ _ _ (kh_agr _ _) hw hS (kh_sub hl [2, 3, 4, 5, 6] rfl)
  rw [if_neg z2] at hF
  refine lv_aload_n C.1 C.2.1 dL_law_304 rfl (kh_at hl 1 rfl) ?_
  refine lv_aload_n C.1 C.2.1 dL_law_305 rfl (kh_at hl 0 rfl) ?_
  refine lv_iload C.1 C.2.1 dL_law_306 (kh_at hl 4 rfl) ?_
  refine lv_iconst (v := (1 : Int32)) C.1 C.2.1 dL_law_308 (by decide) ?_
  refine lv_iadd C.1 C.2.1 dL_law_309 ?_
  refine va_sld C.1 C.2.1 hX hbl hbA hS (kh_in_vp h1) dL_law_310 ?_
  rw [e1]
  refine lv_aload_n C.1 C.2.1 dL_law_311 rfl (kh_at hl 0 rfl) ?_
  refine lv_iload C.1 C.2.1 dL_law_312 (kh_at hl 4 rfl) ?_
  refine lv_iconst (v := (2 : Int32)) C.1 C.2.1 dL_law_314 (by decide) ?_
  refine lv_iadd C.1 C.2.1 dL_law_315 ?_
  refine va_sld C.1 C.2.1 hX hbl hbA hS (kh_in_vp h2) dL_law_316 ?_
  rw [e2]
  refine lv_if_eq (tgt := 324) C.1 C.2.1 dL_law_317 (by decide) (fun c9 => absurd c9 z2) (fun _ => ?_)
  refine lv_iconst (v := (1 : Int32)) C.1 C.2.1 dL_law_320 (by decide) ?_
  refine lv_goto (tgt := 325) C.1 C.2.1 dL_law_321 (by decide) ?_
  refine lv_aload_n C.1 C.2.1 dL_law_325 rfl (kh_at hl 3 rfl) ?_
  obtain ⟨k, ρ1, f1, hF⟩ := kh_bd2_ok hF
  refine kh_calliM (vx_runSW (As := [.ref (ad 0 0), .int a1, .int (1 : Int32), .ref (ad 60 0)]) (rest := []) ⟨C.1, C.2.1, C.2.2.1, C.2.2.2.1, C.2.2.2.2.1⟩ (c_L_prop l hlt D ca A ad ρ a1 (1 : Int32) f1) (vx_cwSW 4 C.2.2.2.2.1 gL_law_L_prop rfl rfl rfl (by decide +kernel) ⟨Nat.le_of_ble_eq_true rfl, Nat.le_of_ble_eq_true rfl⟩) ⟨kh_blindN, fun U hU hW => ⟨rfl, (kh_preJ C hT hw hS (as := [.ref (ad 0 0), .int a1, .int (1 : Int32), .ref (ad 60 0)]) U hU hW).2, hN.moved hW.alike⟩⟩ rfl rfl hl.1.1 rfl (lv_room (kh_sum kh_an (Nat.le_of_ble_eq_true rfl))) dL_law_326 ⟨by show cells + 1 ≤ 601024; omega, by show slots + 6 ≤ 7293034; omega⟩) hS f1 (fun H locs hw hS => ?_)
  refine W.widen (k := cells + 5) (n := slots + 45) (Nat.add_le_add_left (Nat.le_of_ble_eq_true rfl) _) (Nat.add_le_add_left (Nat.le_of_ble_eq_true rfl) _) ?_
  refine kh_istore (lv' := [(5, .int k), (0, .ref b), (1, .ref (ad 0 0)), (2, .ref (ad 15 0)), (3, .ref (ad 60 0)), (4, .int i)]) C.1 C.2.1 dL_law_329 hl (by decide) rfl (fun ls hl => ?_)
  refine lv_aload_n C.1 C.2.1 dL_law_331 rfl (kh_at hl 3 rfl) ?_
  refine lv_aload_n C.1 C.2.1 dL_law_332 rfl (kh_at hl 1 rfl) ?_
  refine lv_iload C.1 C.2.1 dL_law_333 (kh_at hl 5 rfl) ?_
  refine lv_iconst (v := (1 : Int32)) C.1 C.2.1 dL_law_335 (by decide) ?_
  refine lv_iadd C.1 C.2.1 dL_law_336 ?_
  refine va_sld C.1 C.2.1 hX hbl hbA hS (kh_in_vp h1) dL_law_337 ?_
  rw [e1]
  refine lv_aload_n C.1 C.2.1 dL_law_338 rfl (kh_at hl 1 rfl) ?_
  refine lv_iload C.1 C.2.1 dL_law_339 (kh_at hl 5 rfl) ?_
  refine lv_iconst (v := (2 : Int32)) C.1 C.2.1 dL_law_341 (by decide) ?_
  refine lv_iadd C.1 C.2.1 dL_law_342 ?_
  refine va_sld C.1 C.2.1 hX hbl hbA hS (kh_in_vp h2) dL_law_343 ?_
  rw [e2]
  refine lv_if_eq (tgt := 351) C.1 C.2.1 dL_law_344 (by decide) (fun c9 => absurd c9 z2) (fun _ => ?_)
  refine lv_iconst (v := (1 : Int32)) C.1 C.2.1 dL_law_347 (by decide) ?_
  refine lv_goto (tgt := 352) C.1 C.2.1 dL_law_348 (by decide) ?_
  obtain ⟨u, ρ2, f2, hF⟩ := kh_bd2_ok hF
  refine kh_calli (va_runV (As := [.int a1, .int (1 : Int32)]) (rest := []) ⟨C.1, C.2.1, C.2.2.1, C.2.2.2.1, C.2.2.2.2.1⟩ (c_X5_prop l D ca A ad ρ1 a1 (1 : Int32) f2) (cwV 2 C.2.2.2.2.1 gL_law_X5_prop rfl rfl rfl (by decide +kernel) ⟨Nat.le_of_ble_eq_true rfl, Nat.le_of_ble_eq_true rfl⟩) (kh_preV C hw hS 15 (kh_z15 ρ1) kh_kd15 rfl) rfl rfl hl.1.1 rfl (lv_room (kh_sum kh_an (Nat.le_of_ble_eq_true rfl))) dL_law_352 ⟨by show cells + 5 + 0 ≤ 601024; omega, by show slots + 45 + 0 ≤ 7293034; omega⟩) hS f2 (fun H locs hw hS => ?_)
  refine kh_istore (lv' := [(6, .int u), (5, .int k), (0, .ref b), (1, .ref (ad 0 0)), (2, .ref (ad 15 0)), (3, .ref (ad 60 0)), (4, .int i)]) C.1 C.2.1 dL_law_355 hl (by decide) rfl (fun ls hl => ?_)
  refine lv_aload_n C.1 C.2.1 dL_law_357 rfl (kh_at hl 4 rfl) ?_
  obtain ⟨t, f3, hF⟩ := kh_bd_ok hF
  refine kh_calli (va_runV (As := []) (rest := []) ⟨C.1, C.2.1, C.2.2.1, C.2.2.2.1, C.2.2.2.2.1⟩ (c_X5_thrown l D ca A ad ρ2 f3) (cwV 0 C.2.2.2.2.1 gL_law_X5_thrown rfl rfl rfl (by decide +kernel) ⟨Nat.le_of_ble_eq_true rfl, Nat.le_of_ble_eq_true rfl⟩) (kh_preV C hw hS 15 (kh_z15 ρ2) kh_kd15 rfl) rfl rfl hl.1.1 rfl (lv_room (kh_sum kh_an (Nat.le_of_ble_eq_true rfl))) dL_law_358 ⟨by show cells + 5 + 0 ≤ 601024; omega, by show slots + 45 + 0 ≤ 7293034; omega⟩) hS (kh_mp f3) (fun H locs hw hS => ?_)
  obtain ⟨g1, hF⟩ := kh_gd_ok hF
  obtain rfl := Option.some.inj hF
  simp only [Bool.and_eq_true, Bool.or_eq_true, Bool.not_eq_true', decide_eq_true_eq, decide_eq_false_iff_not] at g1
  obtain ⟨g1, g2⟩ := g1
  refine lv_iload C.1 C.2.1 dL_law_361 (kh_at hl 1 rfl) ?_
  refine lv_icmp_eq (tgt := 368) C.1 C.2.1 dL_law_363 (by decide) (fun _ => ?_) (fun c9 => absurd g1 c9)
  refine lv_iload C.1 C.2.1 dL_law_368 (kh_at hl 1 rfl) ?_
  refine lv_if_ne (tgt := 385) C.1 C.2.1 dL_law_370 (by decide) (fun c9 => ?_) (fun c9 => ?_)
  · refine lv_goto (tgt := 1492) C.1 C.2.1 dL_law_385 (by decide) ?_
    exact kk _ _ _ _ (kh_agr _ _) hw hS (kh_sub hl [2, 3, 4, 5, 6] rfl)
  have g3 := g2.resolve_left (fun z => z c9)
  refine lv_aload_n C.1 C.2.1 dL_law_373 rfl (kh_at hl 5 rfl) ?_
  refine lv_iconst (v := (0 : Int32)) C.1 C.2.1 dL_law_374 (by decide) ?_
  refine kh_lald C hw 60 rfl (kh_z60 ρ2) kh_kd60 (by decide) dL_law_375 ?_
  rw [g3]
  refine lv_iload C.1 C.2.1 dL_law_376 (kh_at hl 0 rfl) ?_
  refine lv_i2l (v := u.toInt64) C.1 C.2.1 dL_law_378 rfl ?_
  refine W.lcmp C.1 C.2.1 dL_law_379 ?_
  rw [kh_cmp0]
  refine lv_if_eq (tgt := 385) C.1 C.2.1 dL_law_380 (by decide) (fun _ => ?_) (fun c9 => absurd rfl c9)
  refine lv_goto (tgt := 1492) C.1 C.2.1 dL_law_385 (by decide) ?_
  exact kk _ _ _ _ (kh_agr _ _) hw hS (kh_sub hl [2, 3, 4, 5, 6] rfl)

def s_had (ρ : kh_S) (a1 : Int32) (a2 : Int32) : Option kh_S := kh_bd2 (f_L_had ρ a1 a2) (fun k ρ1 => kh_bd2 (f_X5_had ρ1 a1 a2) (fun b ρ2 => kh_bd (f_X5_thrown ρ2) (fun t => kh_gd (decide (t = k) && (!decide (k = 0) || decide (ρ2 60 0 0 (0 : Int32).toNatClampNeg = b))) (some ρ2))))
set_option maxHeartbeats 4000000 in
set_option maxRecDepth 100000 in
theorem w_had (C0 : kh_At p l s m b c D ca A L xs) (hw : kh_w D ca A ad ρ H) (hS : va_S A s.heap H locs) (hl : kh_lv ls 7 (kh_ll b ad i)) (hc : cells + 5 ≤ 601024) (hs : slots + 45 ≤ 7293034) (h1 : kh_in (i + 1) L = true) (e1 : xs (i + 1).toNatClampNeg = a1) (h2 : kh_in (i + 2) L = true) (e2 : xs (i + 2).toNatClampNeg = a2) (hF : s_had ρ a1 a2 = some ρ') (kk : kh_kk p l e s m b below meth c cells slots Q D ca A ad ρ ρ' i) : W p l e room_1 s m #[.ref b] below meth c H locs cells slots Q (F0 m 388 ls []) := by
  obtain ⟨C, hlt, hT, hN, hX, hbl, hbA⟩ := C0
  unfold s_had at hF
  have hl : kh_lv ls 7 [(0, .ref b), (1, .ref (ad 0 0)), (2, .ref (ad 15 0)), (3, .ref (ad 60 0)), (4, .int i)] := hl
  refine lv_aload_n C.1 C.2.1 dL_law_388 rfl (kh_at hl 1 rfl) ?_
  refine lv_aload_n C.1 C.2.1 dL_law_389 rfl (kh_at hl 0 rfl) ?_
  refine lv_iload C.1 C.2.1 dL_law_390 (kh_at hl 4 rfl) ?_
  refine lv_iconst (v := (1 : Int32)) C.1 C.2.1 dL_law_392 (by decide) ?_
  refine lv_iadd C.1 C.2.1 dL_law_393 ?_
  refine va_sld C.1 C.2.1 hX hbl hbA hS (kh_in_vp h1) dL_law_394 ?_
  rw [e1]
  refine lv_aload_n C.1 C.2.1 dL_law_395 rfl (kh_at hl 0 rfl) ?_
  refine lv_iload C.1 C.2.1 dL_law_396 (kh_at hl 4 rfl) ?_
  refine lv_iconst (v := (2 : Int32)) C.1 C.2.1 dL_law_398 (by decide) ?_
  refine lv_iadd C.1 C.2.1 dL_law_399 ?_
  refine va_sld C.1 C.2.1 hX hbl hbA hS (kh_in_vp h2) dL_law_400 ?_
  rw [e2]
  refine lv_aload_n C.1 C.2.1 dL_law_401 rfl (kh_at hl 3 rfl) ?_
  obtain ⟨k, ρ1, f1, hF⟩ := kh_bd2_ok hF
  refine kh_calliM (vx_runSW (As := [.ref (ad 0 0), .int a1, .int a2, .ref (ad 60 0)]) (rest := []) ⟨C.1, C.2.1, C.2.2.1, C.2.2.2.1, C.2.2.2.2.1⟩ (c_L_had l hlt D ca A ad ρ a1 a2 f1) (vx_cwSW 4 C.2.2.2.2.1 gL_law_L_had rfl rfl rfl (by decide +kernel) ⟨Nat.le_of_ble_eq_true rfl, Nat.le_of_ble_eq_true rfl⟩) ⟨kh_blindN, fun U hU hW => ⟨rfl, (kh_preJ C hT hw hS (as := [.ref (ad 0 0), .int a1, .int a2, .ref (ad 60 0)]) U hU hW).2, hN.moved hW.alike⟩⟩ rfl rfl hl.1.1 rfl (lv_room (kh_sum kh_an (Nat.le_of_ble_eq_true rfl))) dL_law_402 ⟨by show cells + 2 ≤ 601024; omega, by show slots + 12 ≤ 7293034; omega⟩) hS f1 (fun H locs hw hS => ?_)
  refine W.widen (k := cells + 5) (n := slots + 45) (Nat.add_le_add_left (Nat.le_of_ble_eq_true rfl) _) (Nat.add_le_add_left (Nat.le_of_ble_eq_true rfl) _) ?_
  refine kh_istore (lv' := [(5, .int k), (0, .ref b), (1, .ref (ad 0 0)), (2, .ref (ad 15 0)), (3, .ref (ad 60 0)), (4, .int i)]) C.1 C.2.1 dL_law_405 hl (by decide) rfl (fun ls hl => ?_)
  refine lv_aload_n C.1 C.2.1 dL_law_407 rfl (kh_at hl 3 rfl) ?_
  refine lv_aload_n C.1 C.2.1 dL_law_408 rfl (kh_at hl 1 rfl) ?_
  refine lv_iload C.1 C.2.1 dL_law_409 (kh_at hl 5 rfl) ?_
  refine lv_iconst (v := (1 : Int32)) C.1 C.2.1 dL_law_411 (by decide) ?_
  refine lv_iadd C.1 C.2.1 dL_law_412 ?_
  refine va_sld C.1 C.2.1 hX hbl hbA hS (kh_in_vp h1) dL_law_413 ?_
  rw [e1]
  refine lv_aload_n C.1 C.2.1 dL_law_414 rfl (kh_at hl 1 rfl) ?_
  refine lv_iload C.1 C.2.1 dL_law_415 (kh_at hl 5 rfl) ?_
  refine lv_iconst (v := (2 : Int32)) C.1 C.2.1 dL_law_417 (by decide) ?_
  refine lv_iadd C.1 C.2.1 dL_law_418 ?_
  refine va_sld C.1 C.2.1 hX hbl hbA hS (kh_in_vp h2) dL_law_419 ?_
  rw [e2]
  obtain ⟨u, ρ2, f2, hF⟩ := kh_bd2_ok hF
  refine kh_calli (va_runV (As := [.int a1, .int a2]) (rest := []) ⟨C.1, C.2.1, C.2.2.1, C.2.2.2.1, C.2.2.2.2.1⟩ (c_X5_had l D ca A ad ρ1 a1 a2 f2) (cwV 2 C.2.2.2.2.1 gL_law_X5_had rfl rfl rfl (by decide +kernel) ⟨Nat.le_of_ble_eq_true rfl, Nat.le_of_ble_eq_true rfl⟩) (kh_preV C hw hS 15 (kh_z15 ρ1) kh_kd15 rfl) rfl rfl hl.1.1 rfl (lv_room (kh_sum kh_an (Nat.le_of_ble_eq_true rfl))) dL_law_420 ⟨by show cells + 5 + 0 ≤ 601024; omega, by show slots + 45 + 0 ≤ 7293034; omega⟩) hS f2 (fun H locs hw hS => ?_)
  refine kh_istore (lv' := [(6, .int u), (5, .int k), (0, .ref b), (1, .ref (ad 0 0)), (2, .ref (ad 15 0)), (3, .ref (ad 60 0)), (4, .int i)]) C.1 C.2.1 dL_law_423 hl (by decide) rfl (fun ls hl => ?_)
  refine lv_aload_n C.1 C.2.1 dL_law_425 rfl (kh_at hl 4 rfl) ?_
  obtain ⟨t, f3, hF⟩ := kh_bd_ok hF
  refine kh_calli (va_runV (As := []) (rest := []) ⟨C.1, C.2.1, C.2.2.1, C.2.2.2.1, C.2.2.2.2.1⟩ (c_X5_thrown l D ca A ad ρ2 f3) (cwV 0 C.2.2.2.2.1 gL_law_X5_thrown rfl rfl rfl (by decide +kernel) ⟨Nat.le_of_ble_eq_true rfl, Nat.le_of_ble_eq_true rfl⟩) (kh_preV C hw hS 15 (kh_z15 ρ2) kh_kd15 rfl) rfl rfl hl.1.1 rfl (lv_room (kh_sum kh_an (Nat.le_of_ble_eq_true rfl))) dL_law_426 ⟨by show cells + 5 + 0 ≤ 601024; omega, by show slots + 45 + 0 ≤ 7293034; omega⟩) hS (kh_mp f3) (fun H locs hw hS => ?_)
  obtain ⟨g1, hF⟩ := kh_gd_ok hF
  obtain rfl := Option.some.inj hF
  simp only [Bool.and_eq_true, Bool.or_eq_true, Bool.not_eq_true', decide_eq_true_eq, decide_eq_false_iff_not] at g1
  obtain ⟨g1, g2⟩ := g1
  refine lv_iload C.1 C.2.1 dL_law_429 (kh_at hl 1 rfl) ?_
  refine lv_icmp_eq (tgt := 436) C.1 C.2.1 dL_law_431 (by decide) (fun _ => ?_) (fun c9 => absurd g1 c9)
  refine lv_iload C.1 C.2.1 dL_law_436 (kh_at hl 1 rfl) ?_
  refine lv_if_ne (tgt := 453) C.1 C.2.1 dL_law_438 (by decide) (fun c9 => ?_) (fun c9 => ?_)
  · refine lv_goto (tgt := 1492) C.1 C.2.1 dL_law_453 (by decide) ?_
    exact kk _ _ _ _ (kh_agr _ _) hw hS (kh_sub hl [2, 3, 4, 5, 6] rfl)
  have g3 := g2.resolve_left (fun z => z c9)
  refine lv_aload_n C.1 C.2.1 dL_law_441 rfl (kh_at hl 5 rfl) ?_
  refine lv_iconst (v := (0 : Int32)) C.1 C.2.1 dL_law_442 (by decide) ?_
  refine kh_lald C hw 60 rfl (kh_z60 ρ2) kh_kd60 (by decide) dL_law_443 ?_
  rw [g3]
  refine lv_iload C.1 C.2.1 dL_law_444 (kh_at hl 0 rfl) ?_
  refine lv_i2l (v := u.toInt64) C.1 C.2.1 dL_law_446 rfl ?_
  refine W.lcmp C.1 C.2.1 dL_law_447 ?_
  rw [kh_cmp0]
  refine lv_if_eq (tgt := 453) C.1 C.2.1 dL_law_448 (by decide) (fun _ => ?_) (fun c9 => absurd rfl c9)
  refine lv_goto (tgt := 1492) C.1 C.2.1 dL_law_453 (by decide) ?_
  exact kk _ _ _ _ (kh_agr _ _) hw hS (kh_sub hl [2, 3, 4, 5, 6] rfl)

def s_canBeLeft (ρ : kh_S) (a1 : Int32) : Option kh_S := kh_bd2 (f_L_canBeLeft ρ a1) (fun k ρ1 => kh_bd2 (f_X5_canBeLeft ρ1 a1) (fun b ρ2 => kh_bd (f_X5_thrown ρ2) (fun t => kh_gd (decide (t = k) && (!decide (k = 0) || decide (ρ2 60 0 0 (0 : Int32).toNatClampNeg = (if b = 0 then 0 else 1)))) (some ρ2))))
set_option maxHeartbeats 4000000 in
set_option maxRecDepth 100000 in
theorem w_canBeLeft (C0 : kh_At p l s m b c D ca A L xs) (hw : kh_w D ca A ad ρ H) (hS : va_S A s.heap H locs) (hl : kh_lv ls 7 (kh_ll b ad i)) (hc : cells + 5 ≤ 601024) (hs : slots + 45 ≤ 7293034) (h1 : kh_in (i + 1) L = true) (e1 : xs (i + 1).toNatClampNeg = a1) (hF : s_canBeLeft ρ a1 = some ρ') (kk : kh_kk p l e s m b below meth c cells slots Q D ca A ad ρ ρ' i) : W p l e room_1 s m #[.ref b] below meth c H locs cells slots Q (F0 m 456 ls []) := by
  obtain ⟨C, hlt, hT, hN, hX, hbl, hbA⟩ := C0
  unfold s_canBeLeft at hF
  have hl : kh_lv ls 7 [(0, .ref b), (1, .ref (ad 0 0)), (2, .ref (ad 15 0)), (3, .ref (ad 60 0)), (4, .int i)] := hl
  refine lv_aload_n C.1 C.2.1 dL_law_456 rfl (kh_at hl 1 rfl) ?_
  refine lv_aload_n C.1 C.2.1 dL_law_457 rfl (kh_at hl 0 rfl) ?_
  refine lv_iload C.1 C.2.1 dL_law_458 (kh_at hl 4 rfl) ?_
  refine lv_iconst (v := (1 : Int32)) C.1 C.2.1 dL_law_460 (by decide) ?_
  refine lv_iadd C.1 C.2.1 dL_law_461 ?_
  refine va_sld C.1 C.2.1 hX hbl hbA hS (kh_in_vp h1) dL_law_462 ?_
  rw [e1]
  refine lv_aload_n C.1 C.2.1 dL_law_463 rfl (kh_at hl 3 rfl) ?_
  obtain ⟨k, ρ1, f1, hF⟩ := kh_bd2_ok hF
  refine kh_calliM (vx_runSW (As := [.ref (ad 0 0), .int a1, .ref (ad 60 0)]) (rest := []) ⟨C.1, C.2.1, C.2.2.1, C.2.2.2.1, C.2.2.2.2.1⟩ (c_L_canBeLeft l hlt D ca A ad ρ a1 f1) (vx_cwSW 3 C.2.2.2.2.1 gL_law_L_canBeLeft rfl rfl rfl (by decide +kernel) ⟨Nat.le_of_ble_eq_true rfl, Nat.le_of_ble_eq_true rfl⟩) ⟨kh_blindN, fun U hU hW => ⟨rfl, (kh_preJ C hT hw hS (as := [.ref (ad 0 0), .int a1, .ref (ad 60 0)]) U hU hW).2, hN.moved hW.alike⟩⟩ rfl rfl hl.1.1 rfl (lv_room (kh_sum kh_an (Nat.le_of_ble_eq_true rfl))) dL_law_464 ⟨by show cells + 1 ≤ 601024; omega, by show slots + 6 ≤ 7293034; omega⟩) hS f1 (fun H locs hw hS => ?_)
  refine W.widen (k := cells + 5) (n := slots + 45) (Nat.add_le_add_left (Nat.le_of_ble_eq_true rfl) _) (Nat.add_le_add_left (Nat.le_of_ble_eq_true rfl) _) ?_
  refine kh_istore (lv' := [(5, .int k), (0, .ref b), (1, .ref (ad 0 0)), (2, .ref (ad 15 0)), (3, .ref (ad 60 0)), (4, .int i)]) C.1 C.2.1 dL_law_467 hl (by decide) rfl (fun ls hl => ?_)
  refine lv_aload_n C.1 C.2.1 dL_law_469 rfl (kh_at hl 3 rfl) ?_
  refine lv_aload_n C.1 C.2.1 dL_law_470 rfl (kh_at hl 1 rfl) ?_
  refine lv_iload C.1 C.2.1 dL_law_471 (kh_at hl 5 rfl) ?_
  refine lv_iconst (v := (1 : Int32)) C.1 C.2.1 dL_law_473 (by decide) ?_
  refine lv_iadd C.1 C.2.1 dL_law_474 ?_
  refine va_sld C.1 C.2.1 hX hbl hbA hS (kh_in_vp h1) dL_law_475 ?_
  rw [e1]
  obtain ⟨u, ρ2, f2, hF⟩ := kh_bd2_ok hF
  refine kh_calli (va_runV (As := [.int a1]) (rest := []) ⟨C.1, C.2.1, C.2.2.1, C.2.2.2.1, C.2.2.2.2.1⟩ (c_X5_canBeLeft l D ca A ad ρ1 a1 f2) (cwV 1 C.2.2.2.2.1 gL_law_X5_canBeLeft rfl rfl rfl (by decide +kernel) ⟨Nat.le_of_ble_eq_true rfl, Nat.le_of_ble_eq_true rfl⟩) (kh_preV C hw hS 15 (kh_z15 ρ1) kh_kd15 rfl) rfl rfl hl.1.1 rfl (lv_room (kh_sum kh_an (Nat.le_of_ble_eq_true rfl))) dL_law_476 ⟨by show cells + 5 + 0 ≤ 601024; omega, by show slots + 45 + 0 ≤ 7293034; omega⟩) hS f2 (fun H locs hw hS => ?_)
  refine kh_istore (lv' := [(6, .int u), (5, .int k), (0, .ref b), (1, .ref (ad 0 0)), (2, .ref (ad 15 0)), (3, .ref (ad 60 0)), (4, .int i)]) C.1 C.2.1 dL_law_479 hl (by decide) rfl (fun ls hl => ?_)
  refine lv_aload_n C.1 C.2.1 dL_law_481 rfl (kh_at hl 4 rfl) ?_
  obtain ⟨t, f3, hF⟩ := kh_bd_ok hF
  refine kh_calli (va_runV (As := []) (rest := []) ⟨C.1, C.2.1, C.2.2.1, C.2.2.2.1, C.2.2.2.2.1⟩ (c_X5_thrown l D ca A ad ρ2 f3) (cwV 0 C.2.2.2.2.1 gL_law_X5_thrown rfl rfl rfl (by decide +kernel) ⟨Nat.le_of_ble_eq_true rfl, Nat.le_of_ble_eq_true rfl⟩) (kh_preV C hw hS 15 (kh_z15 ρ2) kh_kd15 rfl) rfl rfl hl.1.1 rfl (lv_room (kh_sum kh_an (Nat.le_of_ble_eq_true rfl))) dL_law_482 ⟨by show cells + 5 + 0 ≤ 601024; omega, by show slots + 45 + 0 ≤ 7293034; omega⟩) hS (kh_mp f3) (fun H locs hw hS => ?_)
  obtain ⟨g1, hF⟩ := kh_gd_ok hF
  obtain rfl := Option.some.inj hF
  simp only [Bool.and_eq_true, Bool.or_eq_true, Bool.not_eq_true', decide_eq_true_eq, decide_eq_false_iff_not] at g1
  obtain ⟨g1, g2⟩ := g1
  refine lv_iload C.1 C.2.1 dL_law_485 (kh_at hl 1 rfl) ?_
  refine lv_icmp_eq (tgt := 492) C.1 C.2.1 dL_law_487 (by decide) (fun _ => ?_) (fun c9 => absurd g1 c9)
  refine lv_iload C.1 C.2.1 dL_law_492 (kh_at hl 1 rfl) ?_
  refine lv_if_ne (tgt := 516) C.1 C.2.1 dL_law_494 (by decide) (fun c9 => ?_) (fun c9 => ?_)
  · refine lv_goto (tgt := 1492) C.1 C.2.1 dL_law_516 (by decide) ?_
    exact kk _ _ _ _ (kh_agr _ _) hw hS (kh_sub hl [2, 3, 4, 5, 6] rfl)
  have g3 := g2.resolve_left (fun z => z c9)
  refine lv_aload_n C.1 C.2.1 dL_law_497 rfl (kh_at hl 5 rfl) ?_
  refine lv_iconst (v := (0 : Int32)) C.1 C.2.1 dL_law_498 (by decide) ?_
  refine kh_lald C hw 60 rfl (kh_z60 ρ2) kh_kd60 (by decide) dL_law_499 ?_
  rw [g3]
  refine lv_iload C.1 C.2.1 dL_law_500 (kh_at hl 0 rfl) ?_
  refine lv_if_eq (tgt := 509) C.1 C.2.1 dL_law_502 (by decide) (fun c8 => ?_) (fun c8 => ?_)
  · rw [if_pos c8]
    refine lv_lconst (v := (0 : Int32).toInt64) C.1 C.2.1 dL_law_509 (by decide) ?_
    refine W.lcmp C.1 C.2.1 dL_law_510 ?_
    rw [kh_cmp0]
    refine lv_if_eq (tgt := 516) C.1 C.2.1 dL_law_511 (by decide) (fun _ => ?_) (fun c9 => absurd rfl c9)
    refine lv_goto (tgt := 1492) C.1 C.2.1 dL_law_516 (by decide) ?_
    exact kk _ _ _ _ (kh_agr _ _) hw hS (kh_sub hl [2, 3, 4, 5, 6] rfl)
  · rw [if_neg c8]
    refine lv_lconst (v := (1 : Int32).toInt64) C.1 C.2.1 dL_law_505 (by decide) ?_
    refine lv_goto (tgt := 510) C.1 C.2.1 dL_law_506 (by decide) ?_
    refine W.lcmp C.1 C.2.1 dL_law_510 ?_
    rw [kh_cmp0]
    refine lv_if_eq (tgt := 516) C.1 C.2.1 dL_law_511 (by decide) (fun _ => ?_) (fun c9 => absurd rfl c9)
    refine lv_goto (tgt := 1492) C.1 C.2.1 dL_law_516 (by decide) ?_
    exact kk _ _ _ _ (kh_agr _ _) hw hS (kh_sub hl [2, 3, 4, 5, 6] rfl)

def s_orders (ρ : kh_S) (a1 : Int32) : Option kh_S := kh_bd2 (f_L_orders ρ a1) (fun k ρ1 => kh_bd2 (f_X5_orders ρ1 a1) (fun b ρ2 => kh_bd (f_X5_thrown ρ2) (fun t => kh_gd (decide (t = k) && (!decide (k = 0) || decide (ρ2 60 0 0 (0 : Int32).toNatClampNeg = b))) (some ρ2))))
set_option maxHeartbeats 4000000 in
set_option maxRecDepth 100000 in
theorem w_orders (C0 : kh_At p l s m b c D ca A L xs) (hw : kh_w D ca A ad ρ H) (hS : va_S A s.heap H locs) (hl : kh_lv ls 7 (kh_ll b ad i)) (hc : cells + 5 ≤ 601024) (hs : slots + 45 ≤ 7293034) (h1 : kh_in (i + 1) L = true) (e1 : xs (i + 1).toNatClampNeg = a1) (hF : s_orders ρ a1 = some ρ') (kk : kh_kk p l e s m b below meth c cells slots Q D ca A ad ρ ρ' i) : W p l e room_1 s m #[.ref b] below meth c H locs cells slots Q (F0 m 519 ls []) := by
  obtain ⟨C, hlt, hT, hN, hX, hbl, hbA⟩ := C0
  unfold s_orders at hF
  have hl : kh_lv ls 7 [(0, .ref b), (1, .ref (ad 0 0)), (2, .ref (ad 15 0)), (3, .ref (ad 60 0)), (4, .int i)] := hl
  refine lv_aload_n C.1 C.2.1 dL_law_519 rfl (kh_at hl 1 rfl) ?_
  refine lv_aload_n C.1 C.2.1 dL_law_520 rfl (kh_at hl 0 rfl) ?_
  refine lv_iload C.1 C.2.1 dL_law_521 (kh_at hl 4 rfl) ?_
  refine lv_iconst (v := (1 : Int32)) C.1 C.2.1 dL_law_523 (by decide) ?_
  refine lv_iadd C.1 C.2.1 dL_law_524 ?_
  refine va_sld C.1 C.2.1 hX hbl hbA hS (kh_in_vp h1) dL_law_525 ?_
  rw [e1]
  refine lv_aload_n C.1 C.2.1 dL_law_526 rfl (kh_at hl 3 rfl) ?_
  obtain ⟨k, ρ1, f1, hF⟩ := kh_bd2_ok hF
  refine kh_calliM (vx_runSW (As := [.ref (ad 0 0), .int a1, .ref (ad 60 0)]) (rest := []) ⟨C.1, C.2.1, C.2.2.1, C.2.2.2.1, C.2.2.2.2.1⟩ (c_L_orders l hlt D ca A ad ρ a1 f1) (vx_cwSW 3 C.2.2.2.2.1 gL_law_L_orders rfl rfl rfl (by decide +kernel) ⟨Nat.le_of_ble_eq_true rfl, Nat.le_of_ble_eq_true rfl⟩) ⟨kh_blindN, fun U hU hW => ⟨rfl, (kh_preJ C hT hw hS (as := [.ref (ad 0 0), .int a1, .ref (ad 60 0)]) U hU hW).2, hN.moved hW.alike⟩⟩ rfl rfl hl.1.1 rfl (lv_room (kh_sum kh_an (Nat.le_of_ble_eq_true rfl))) dL_law_527 ⟨by show cells + 1 ≤ 601024; omega, by show slots + 6 ≤ 7293034; omega⟩) hS f1 (fun H locs hw hS => ?_)
  refine W.widen (k := cells + 5) (n := slots + 45) (Nat.add_le_add_left (Nat.le_of_ble_eq_true rfl) _) (Nat.add_le_add_left (Nat.le_of_ble_eq_true rfl) _) ?_
  refine kh_istore (lv' := [(5, .int k), (0, .ref b), (1, .ref (ad 0 0)), (2, .ref (ad 15 0)), (3, .ref (ad 60 0)), (4, .int i)]) C.1 C.2.1 dL_law_530 hl (by decide) rfl (fun ls hl => ?_)
  refine lv_aload_n C.1 C.2.1 dL_law_532 rfl (kh_at hl 3 rfl) ?_
  refine lv_aload_n C.1 C.2.1 dL_law_533 rfl (kh_at hl 1 rfl) ?_
  refine lv_iload C.1 C.2.1 dL_law_534 (kh_at hl 5 rfl) ?_
  refine lv_iconst (v := (1 : Int32)) C.1 C.2.1 dL_law_536 (by decide) ?_
  refine lv_iadd C.1 C.2.1 dL_law_537 ?_
  refine va_sld C.1 C.2.1 hX hbl hbA hS (kh_in_vp h1) dL_law_538 ?_
  rw [e1]
  obtain ⟨u, ρ2, f2, hF⟩ := kh_bd2_ok hF
  refine kh_calli (va_runV (As := [.int a1]) (rest := []) ⟨C.1, C.2.1, C.2.2.1, C.2.2.2.1, C.2.2.2.2.1⟩ (c_X5_orders l D ca A ad ρ1 a1 f2) (cwV 1 C.2.2.2.2.1 gL_law_X5_orders rfl rfl rfl (by decide +kernel) ⟨Nat.le_of_ble_eq_true rfl, Nat.le_of_ble_eq_true rfl⟩) (kh_preV C hw hS 15 (kh_z15 ρ1) kh_kd15 rfl) rfl rfl hl.1.1 rfl (lv_room (kh_sum kh_an (Nat.le_of_ble_eq_true rfl))) dL_law_539 ⟨by show cells + 5 + 0 ≤ 601024; omega, by show slots + 45 + 0 ≤ 7293034; omega⟩) hS f2 (fun H locs hw hS => ?_)
  refine kh_istore (lv' := [(6, .int u), (5, .int k), (0, .ref b), (1, .ref (ad 0 0)), (2, .ref (ad 15 0)), (3, .ref (ad 60 0)), (4, .int i)]) C.1 C.2.1 dL_law_542 hl (by decide) rfl (fun ls hl => ?_)
  refine lv_aload_n C.1 C.2.1 dL_law_544 rfl (kh_at hl 4 rfl) ?_
  obtain ⟨t, f3, hF⟩ := kh_bd_ok hF
  refine kh_calli (va_runV (As := []) (rest := []) ⟨C.1, C.2.1, C.2.2.1, C.2.2.2.1, C.2.2.2.2.1⟩ (c_X5_thrown l D ca A ad ρ2 f3) (cwV 0 C.2.2.2.2.1 gL_law_X5_thrown rfl rfl rfl (by decide +kernel) ⟨Nat.le_of_ble_eq_true rfl, Nat.le_of_ble_eq_true rfl⟩) (kh_preV C hw hS 15 (kh_z15 ρ2) kh_kd15 rfl) rfl rfl hl.1.1 rfl (lv_room (kh_sum kh_an (Nat.le_of_ble_eq_true rfl))) dL_law_545 ⟨by show cells + 5 + 0 ≤ 601024; omega, by show slots + 45 + 0 ≤ 7293034; omega⟩) hS (kh_mp f3) (fun H locs hw hS => ?_)
  obtain ⟨g1, hF⟩ := kh_gd_ok hF
  obtain rfl := Option.some.inj hF
  simp only [Bool.and_eq_true, Bool.or_eq_true, Bool.not_eq_true', decide_eq_true_eq, decide_eq_false_iff_not] at g1
  obtain ⟨g1, g2⟩ := g1
  refine lv_iload C.1 C.2.1 dL_law_548 (kh_at hl 1 rfl) ?_
  refine lv_icmp_eq (tgt := 555) C.1 C.2.1 dL_law_550 (by decide) (fun _ => ?_) (fun c9 => absurd g1 c9)
  refine lv_iload C.1 C.2.1 dL_law_555 (kh_at hl 1 rfl) ?_
  refine lv_if_ne (tgt := 572) C.1 C.2.1 dL_law_557 (by decide) (fun c9 => ?_) (fun c9 => ?_)
  · refine lv_goto (tgt := 1492) C.1 C.2.1 dL_law_572 (by decide) ?_
    exact kk _ _ _ _ (kh_agr _ _) hw hS (kh_sub hl [2, 3, 4, 5, 6] rfl)
  have g3 := g2.resolve_left (fun z => z c9)
  refine lv_aload_n C.1 C.2.1 dL_law_560 rfl (kh_at hl 5 rfl) ?_
  refine lv_iconst (v := (0 : Int32)) C.1 C.2.1 dL_law_561 (by decide) ?_
  refine kh_lald C hw 60 rfl (kh_z60 ρ2) kh_kd60 (by decide) dL_law_562 ?_
  rw [g3]
  refine lv_iload C.1 C.2.1 dL_law_563 (kh_at hl 0 rfl) ?_
  refine lv_i2l (v := u.toInt64) C.1 C.2.1 dL_law_565 rfl ?_
  refine W.lcmp C.1 C.2.1 dL_law_566 ?_
  rw [kh_cmp0]
  refine lv_if_eq (tgt := 572) C.1 C.2.1 dL_law_567 (by decide) (fun _ => ?_) (fun c9 => absurd rfl c9)
  refine lv_goto (tgt := 1492) C.1 C.2.1 dL_law_572 (by decide) ?_
  exact kk _ _ _ _ (kh_agr _ _) hw hS (kh_sub hl [2, 3, 4, 5, 6] rfl)

def s_ordersAnew (ρ : kh_S) (a1 : Int32) : Option kh_S := kh_bd2 (f_L_ordersAnew ρ a1) (fun k ρ1 => kh_bd2 (f_X5_ordersAnew ρ1 a1) (fun b ρ2 => kh_bd (f_X5_thrown ρ2) (fun t => kh_gd (decide (t = k) && (!decide (k = 0) || decide (ρ2 60 0 0 (0 : Int32).toNatClampNeg = b))) (some ρ2))))
set_option maxHeartbeats 4000000 in
set_option maxRecDepth 100000 in
theorem w_ordersAnew (C0 : kh_At p l s m b c D ca A L xs) (hw : kh_w D ca A ad ρ H) (hS : va_S A s.heap H locs) (hl : kh_lv ls 7 (kh_ll b ad i)) (hc : cells + 5 ≤ 601024) (hs : slots + 45 ≤ 7293034) (h1 : kh_in (i + 1) L = true) (e1 : xs (i + 1).toNatClampNeg = a1) (hF : s_ordersAnew ρ a1 = some ρ') (kk : kh_kk p l e s m b below meth c cells slots Q D ca A ad ρ ρ' i) : W p l e room_1 s m #[.ref b] below meth c H locs cells slots Q (F0 m 575 ls []) := by
  obtain ⟨C, hlt, hT, hN, hX, hbl, hbA⟩ := C0
  unfold s_ordersAnew at hF
  have hl : kh_lv ls 7 [(0, .ref b), (1, .ref (ad 0 0)), (2, .ref (ad 15 0)), (3, .ref (ad 60 0)), (4, .int i)] := hl
  refine lv_aload_n C.1 C.2.1 dL_law_575 rfl (kh_at hl 1 rfl) ?_
  refine lv_aload_n C.1 C.2.1 dL_law_576 rfl (kh_at hl 0 rfl) ?_
  refine lv_iload C.1 C.2.1 dL_law_577 (kh_at hl 4 rfl) ?_
  refine lv_iconst (v := (1 : Int32)) C.1 C.2.1 dL_law_579 (by decide) ?_
  refine lv_iadd C.1 C.2.1 dL_law_580 ?_
  refine va_sld C.1 C.2.1 hX hbl hbA hS (kh_in_vp h1) dL_law_581 ?_
  rw [e1]
  refine lv_aload_n C.1 C.2.1 dL_law_582 rfl (kh_at hl 3 rfl) ?_
  obtain ⟨k, ρ1, f1, hF⟩ := kh_bd2_ok hF
  refine kh_calliM (vx_runSW (As := [.ref (ad 0 0), .int a1, .ref (ad 60 0)]) (rest := []) ⟨C.1, C.2.1, C.2.2.1, C.2.2.2.1, C.2.2.2.2.1⟩ (c_L_ordersAnew l hlt D ca A ad ρ a1 f1) (vx_cwSW 3 C.2.2.2.2.1 gL_law_L_ordersAnew rfl rfl rfl (by decide +kernel) ⟨Nat.le_of_ble_eq_true rfl, Nat.le_of_ble_eq_true rfl⟩) ⟨kh_blindN, fun U hU hW => ⟨rfl, (kh_preJ C hT hw hS (as := [.ref (ad 0 0), .int a1, .ref (ad 60 0)]) U hU hW).2, hN.moved hW.alike⟩⟩ rfl rfl hl.1.1 rfl (lv_room (kh_sum kh_an (Nat.le_of_ble_eq_true rfl))) dL_law_583 ⟨by show cells + 1 ≤ 601024; omega, by show slots + 6 ≤ 7293034; omega⟩) hS f1 (fun H locs hw hS => ?_)
  refine W.widen (k := cells + 5) (n := slots + 45) (Nat.add_le_add_left (Nat.le_of_ble_eq_true rfl) _) (Nat.add_le_add_left (Nat.le_of_ble_eq_true rfl) _) ?_
  refine kh_istore (lv' := [(5, .int k), (0, .ref b), (1, .ref (ad 0 0)), (2, .ref (ad 15 0)), (3, .ref (ad 60 0)), (4, .int i)]) C.1 C.2.1 dL_law_586 hl (by decide) rfl (fun ls hl => ?_)
  refine lv_aload_n C.1 C.2.1 dL_law_588 rfl (kh_at hl 3 rfl) ?_
  refine lv_aload_n C.1 C.2.1 dL_law_589 rfl (kh_at hl 1 rfl) ?_
  refine lv_iload C.1 C.2.1 dL_law_590 (kh_at hl 5 rfl) ?_
  refine lv_iconst (v := (1 : Int32)) C.1 C.2.1 dL_law_592 (by decide) ?_
  refine lv_iadd C.1 C.2.1 dL_law_593 ?_
  refine va_sld C.1 C.2.1 hX hbl hbA hS (kh_in_vp h1) dL_law_594 ?_
  rw [e1]
  obtain ⟨u, ρ2, f2, hF⟩ := kh_bd2_ok hF
  refine kh_calli (va_runV (As := [.int a1]) (rest := []) ⟨C.1, C.2.1, C.2.2.1, C.2.2.2.1, C.2.2.2.2.1⟩ (c_X5_ordersAnew l D ca A ad ρ1 a1 f2) (cwV 1 C.2.2.2.2.1 gL_law_X5_ordersAnew rfl rfl rfl (by decide +kernel) ⟨Nat.le_of_ble_eq_true rfl, Nat.le_of_ble_eq_true rfl⟩) (kh_preV C hw hS 15 (kh_z15 ρ1) kh_kd15 rfl) rfl rfl hl.1.1 rfl (lv_room (kh_sum kh_an (Nat.le_of_ble_eq_true rfl))) dL_law_595 ⟨by show cells + 5 + 0 ≤ 601024; omega, by show slots + 45 + 0 ≤ 7293034; omega⟩) hS f2 (fun H locs hw hS => ?_)
  refine kh_istore (lv' := [(6, .int u), (5, .int k), (0, .ref b), (1, .ref (ad 0 0)), (2, .ref (ad 15 0)), (3, .ref (ad 60 0)), (4, .int i)]) C.1 C.2.1 dL_law_598 hl (by decide) rfl (fun ls hl => ?_)
  refine lv_aload_n C.1 C.2.1 dL_law_600 rfl (kh_at hl 4 rfl) ?_
  obtain ⟨t, f3, hF⟩ := kh_bd_ok hF
  refine kh_calli (va_runV (As := []) (rest := []) ⟨C.1, C.2.1, C.2.2.1, C.2.2.2.1, C.2.2.2.2.1⟩ (c_X5_thrown l D ca A ad ρ2 f3) (cwV 0 C.2.2.2.2.1 gL_law_X5_thrown rfl rfl rfl (by decide +kernel) ⟨Nat.le_of_ble_eq_true rfl, Nat.le_of_ble_eq_true rfl⟩) (kh_preV C hw hS 15 (kh_z15 ρ2) kh_kd15 rfl) rfl rfl hl.1.1 rfl (lv_room (kh_sum kh_an (Nat.le_of_ble_eq_true rfl))) dL_law_601 ⟨by show cells + 5 + 0 ≤ 601024; omega, by show slots + 45 + 0 ≤ 7293034; omega⟩) hS (kh_mp f3) (fun H locs hw hS => ?_)
  obtain ⟨g1, hF⟩ := kh_gd_ok hF
  obtain rfl := Option.some.inj hF
  simp only [Bool.and_eq_true, Bool.or_eq_true, Bool.not_eq_true', decide_eq_true_eq, decide_eq_false_iff_not] at g1
  obtain ⟨g1, g2⟩ := g1
  refine lv_iload C.1 C.2.1 dL_law_604 (kh_at hl 1 rfl) ?_
  refine lv_icmp_eq (tgt := 611) C.1 C.2.1 dL_law_606 (by decide) (fun _ => ?_) (fun c9 => absurd g1 c9)
  refine lv_iload C.1 C.2.1 dL_law_611 (kh_at hl 1 rfl) ?_
  refine lv_if_ne (tgt := 628) C.1 C.2.1 dL_law_613 (by decide) (fun c9 => ?_) (fun c9 => ?_)
  · refine lv_goto (tgt := 1492) C.1 C.2.1 dL_law_628 (by decide) ?_
    exact kk _ _ _ _ (kh_agr _ _) hw hS (kh_sub hl [2, 3, 4, 5, 6] rfl)
  have g3 := g2.resolve_left (fun z => z c9)
  refine lv_aload_n C.1 C.2.1 dL_law_616 rfl (kh_at hl 5 rfl) ?_
  refine lv_iconst (v := (0 : Int32)) C.1 C.2.1 dL_law_617 (by decide) ?_
  refine kh_lald C hw 60 rfl (kh_z60 ρ2) kh_kd60 (by decide) dL_law_618 ?_
  rw [g3]
  refine lv_iload C.1 C.2.1 dL_law_619 (kh_at hl 0 rfl) ?_
  refine lv_i2l (v := u.toInt64) C.1 C.2.1 dL_law_621 rfl ?_
  refine W.lcmp C.1 C.2.1 dL_law_622 ?_
  rw [kh_cmp0]
  refine lv_if_eq (tgt := 628) C.1 C.2.1 dL_law_623 (by decide) (fun _ => ?_) (fun c9 => absurd rfl c9)
  refine lv_goto (tgt := 1492) C.1 C.2.1 dL_law_628 (by decide) ?_
  exact kk _ _ _ _ (kh_agr _ _) hw hS (kh_sub hl [2, 3, 4, 5, 6] rfl)

noncomputable def s_come (ρ : kh_S) (a1 : Int32) : Option kh_S := kh_bd2 (f_L_come ρ a1) (fun k ρ1 => kh_bd2 (f_X5_come ρ1 a1) (fun b ρ2 => kh_bd (f_X5_thrown ρ2) (fun t => kh_gd (decide (t = k) && (!decide (k = 0) || decide (ρ2 60 0 0 (0 : Int32).toNatClampNeg = b))) (some ρ2))))
set_option maxHeartbeats 4000000 in
set_option maxRecDepth 100000 in
theorem w_come (C0 : kh_At p l s m b c D ca A L xs) (hw : kh_w D ca A ad ρ H) (hS : va_S A s.heap H locs) (hl : kh_lv ls 7 (kh_ll b ad i)) (hc : cells + 5 ≤ 601024) (hs : slots + 45 ≤ 7293034) (h1 : kh_in (i + 1) L = true) (e1 : xs (i + 1).toNatClampNeg = a1) (hF : s_come ρ a1 = some ρ') (kk : kh_kk p l e s m b below meth c cells slots Q D ca A ad ρ ρ' i) : W p l e room_1 s m #[.ref b] below meth c H locs cells slots Q (F0 m 631 ls []) := by
  obtain ⟨C, hlt, hT, hN, hX, hbl, hbA⟩ := C0
  unfold s_come at hF
  have hl : kh_lv ls 7 [(0, .ref b), (1, .ref (ad 0 0)), (2, .ref (ad 15 0)), (3, .ref (ad 60 0)), (4, .int i)] := hl
  refine lv_aload_n C.1 C.2.1 dL_law_631 rfl (kh_at hl 1 rfl) ?_
  refine lv_aload_n C.1 C.2.1 dL_law_632 rfl (kh_at hl 0 rfl) ?_
  refine lv_iload C.1 C.2.1 dL_law_633 (kh_at hl 4 rfl) ?_
  refine lv_iconst (v := (1 : Int32)) C.1 C.2.1 dL_law_635 (by decide) ?_
  refine lv_iadd C.1 C.2.1 dL_law_636 ?_
  refine va_sld C.1 C.2.1 hX hbl hbA hS (kh_in_vp h1) dL_law_637 ?_
  rw [e1]
  refine lv_aload_n C.1 C.2.1 dL_law_638 rfl (kh_at hl 3 rfl) ?_
  obtain ⟨k, ρ1, f1, hF⟩ := kh_bd2_ok hF
  refine kh_callN (vx_runSW (As := [.ref (ad 0 0), .int a1, .ref (ad 60 0)]) (rest := []) ⟨C.1, C.2.1, C.2.2.1, C.2.2.2.1, C.2.2.2.2.1⟩ (c_L_come l hlt D ca A ad ρ a1 f1) (vx_cwSW 3 C.2.2.2.2.1 gL_law_L_come rfl rfl rfl (by decide +kernel) ⟨Nat.le_of_ble_eq_true rfl, Nat.le_of_ble_eq_true rfl⟩) ⟨kh_blindN, fun U hU hW => ⟨rfl, (kh_preJ C hT hw hS (as := [.ref (ad 0 0), .int a1, .ref (ad 60 0)]) U hU hW).2, hN.moved hW.alike⟩⟩ rfl rfl hl.1.1 rfl (lv_room (kh_sum kh_an (Nat.le_of_ble_eq_true rfl))) dL_law_639 ⟨by show cells + 3 ≤ 601024; omega, by show slots + 23 ≤ 7293034; omega⟩) hS f1 (fun ad2 H locs hag hw hS => ?_)
  have hl : kh_lv ls 7 [(0, .ref b), (1, .ref (ad2 0 0)), (2, .ref (ad2 15 0)), (3, .ref (ad2 60 0)), (4, .int i)] := by
    rw [hag 0 0 (kh_z0 ρ), hag 15 0 (kh_z15 ρ), hag 60 0 (kh_z60 ρ)]
    exact hl
  refine W.widen (k := cells + 5) (n := slots + 45) (Nat.add_le_add_left (Nat.le_of_ble_eq_true rfl) _) (Nat.add_le_add_left (Nat.le_of_ble_eq_true rfl) _) ?_
  refine kh_istore (lv' := [(5, .int k), (0, .ref b), (1, .ref (ad2 0 0)), (2, .ref (ad2 15 0)), (3, .ref (ad2 60 0)), (4, .int i)]) C.1 C.2.1 dL_law_642 hl (by decide) rfl (fun ls hl => ?_)
  refine lv_aload_n C.1 C.2.1 dL_law_644 rfl (kh_at hl 3 rfl) ?_
  refine lv_aload_n C.1 C.2.1 dL_law_645 rfl (kh_at hl 1 rfl) ?_
  refine lv_iload C.1 C.2.1 dL_law_646 (kh_at hl 5 rfl) ?_
  refine lv_iconst (v := (1 : Int32)) C.1 C.2.1 dL_law_648 (by decide) ?_
  refine lv_iadd C.1 C.2.1 dL_law_649 ?_
  refine va_sld C.1 C.2.1 hX hbl hbA hS (kh_in_vp h1) dL_law_650 ?_
  rw [e1]
  obtain ⟨u, ρ2, f2, hF⟩ := kh_bd2_ok hF
  refine kh_calli (va_runV (As := [.int a1]) (rest := []) ⟨C.1, C.2.1, C.2.2.1, C.2.2.2.1, C.2.2.2.2.1⟩ (c_X5_come l D ca A ad2 ρ1 a1 f2) (cwV 1 C.2.2.2.2.1 gL_law_X5_come rfl rfl rfl (by decide +kernel) ⟨Nat.le_of_ble_eq_true rfl, Nat.le_of_ble_eq_true rfl⟩) (kh_preV C hw hS 15 (kh_z15 ρ1) kh_kd15 rfl) rfl rfl hl.1.1 rfl (lv_room (kh_sum kh_an (Nat.le_of_ble_eq_true rfl))) dL_law_651 ⟨by show cells + 5 + 0 ≤ 601024; omega, by show slots + 45 + 0 ≤ 7293034; omega⟩) hS f2 (fun H locs hw hS => ?_)
  refine kh_istore (lv' := [(6, .int u), (5, .int k), (0, .ref b), (1, .ref (ad2 0 0)), (2, .ref (ad2 15 0)), (3, .ref (ad2 60 0)), (4, .int i)]) C.1 C.2.1 dL_law_654 hl (by decide) rfl (fun ls hl => ?_)
  refine lv_aload_n C.1 C.2.1 dL_law_656 rfl (kh_at hl 4 rfl) ?_
  obtain ⟨t, f3, hF⟩ := kh_bd_ok hF
  refine kh_calli (va_runV (As := []) (rest := []) ⟨C.1, C.2.1, C.2.2.1, C.2.2.2.1, C.2.2.2.2.1⟩ (c_X5_thrown l D ca A ad2 ρ2 f3) (cwV 0 C.2.2.2.2.1 gL_law_X5_thrown rfl rfl rfl (by decide +kernel) ⟨Nat.le_of_ble_eq_true rfl, Nat.le_of_ble_eq_true rfl⟩) (kh_preV C hw hS 15 (kh_z15 ρ2) kh_kd15 rfl) rfl rfl hl.1.1 rfl (lv_room (kh_sum kh_an (Nat.le_of_ble_eq_true rfl))) dL_law_657 ⟨by show cells + 5 + 0 ≤ 601024; omega, by show slots + 45 + 0 ≤ 7293034; omega⟩) hS (kh_mp f3) (fun H locs hw hS => ?_)
  obtain ⟨g1, hF⟩ := kh_gd_ok hF
  obtain rfl := Option.some.inj hF
  simp only [Bool.and_eq_true, Bool.or_eq_true, Bool.not_eq_true', decide_eq_true_eq, decide_eq_false_iff_not] at g1
  obtain ⟨g1, g2⟩ := g1
  refine lv_iload C.1 C.2.1 dL_law_660 (kh_at hl 1 rfl) ?_
  refine lv_icmp_eq (tgt := 667) C.1 C.2.1 dL_law_662 (by decide) (fun _ => ?_) (fun c9 => absurd g1 c9)
  refine lv_iload C.1 C.2.1 dL_law_667 (kh_at hl 1 rfl) ?_
  refine lv_if_ne (tgt := 684) C.1 C.2.1 dL_law_669 (by decide) (fun c9 => ?_) (fun c9 => ?_)
  · refine lv_goto (tgt := 1492) C.1 C.2.1 dL_law_684 (by decide) ?_
    exact kk _ _ _ _ hag hw hS (kh_sub hl [2, 3, 4, 5, 6] rfl)
  have g3 := g2.resolve_left (fun z => z c9)
  refine lv_aload_n C.1 C.2.1 dL_law_672 rfl (kh_at hl 5 rfl) ?_
  refine lv_iconst (v := (0 : Int32)) C.1 C.2.1 dL_law_673 (by decide) ?_
  refine kh_lald C hw 60 rfl (kh_z60 ρ2) kh_kd60 (by decide) dL_law_674 ?_
  rw [g3]
  refine lv_iload C.1 C.2.1 dL_law_675 (kh_at hl 0 rfl) ?_
  refine lv_i2l (v := u.toInt64) C.1 C.2.1 dL_law_677 rfl ?_
  refine W.lcmp C.1 C.2.1 dL_law_678 ?_
  rw [kh_cmp0]
  refine lv_if_eq (tgt := 684) C.1 C.2.1 dL_law_679 (by decide) (fun _ => ?_) (fun c9 => absurd rfl c9)
  refine lv_goto (tgt := 1492) C.1 C.2.1 dL_law_684 (by decide) ?_
  exact kk _ _ _ _ hag hw hS (kh_sub hl [2, 3, 4, 5, 6] rfl)

def s_solve (ρ : kh_S) (a1 : Int32) (a2 : Int32) : Option kh_S := kh_bd2 (f_L_solve ρ a1 a2) (fun k ρ1 => kh_bd2 (f_X5_solve ρ1 a1 a2) (fun b ρ2 => kh_bd (f_X5_thrown ρ2) (fun t => kh_gd (decide (t = k) && (!decide (k = 0) || decide (ρ2 60 0 0 (0 : Int32).toNatClampNeg = b))) (some ρ2))))
set_option maxHeartbeats 4000000 in
set_option maxRecDepth 100000 in
theorem w_solve (C0 : kh_At p l s m b c D ca A L xs) (hw : kh_w D ca A ad ρ H) (hS : va_S A s.heap H locs) (hl : kh_lv ls 7 (kh_ll b ad i)) (hc : cells + 5 ≤ 601024) (hs : slots + 45 ≤ 7293034) (h1 : kh_in (i + 1) L = true) (e1 : xs (i + 1).toNatClampNeg = a1) (h2 : kh_in (i + 2) L = true) (e2 : xs (i + 2).toNatClampNeg = a2) (hF : s_solve ρ a1 a2 = some ρ') (kk : kh_kk p l e s m b below meth c cells slots Q D ca A ad ρ ρ' i) : W p l e room_1 s m #[.ref b] below meth c H locs cells slots Q (F0 m 687 ls []) := by
  obtain ⟨C, hlt, hT, hN, hX, hbl, hbA⟩ := C0
  unfold s_solve at hF
  have hl : kh_lv ls 7 [(0, .ref b), (1, .ref (ad 0 0)), (2, .ref (ad 15 0)), (3, .ref (ad 60 0)), (4, .int i)] := hl
  refine lv_aload_n C.1 C.2.1 dL_law_687 rfl (kh_at hl 1 rfl) ?_
  refine lv_aload_n C.1 C.2.1 dL_law_688 rfl (kh_at hl 0 rfl) ?_
  refine lv_iload C.1 C.2.1 dL_law_689 (kh_at hl 4 rfl) ?_
  refine lv_iconst (v := (1 : Int32)) C.1 C.2.1 dL_law_691 (by decide) ?_
  refine lv_iadd C.1 C.2.1 dL_law_692 ?_
  refine va_sld C.1 C.2.1 hX hbl hbA hS (kh_in_vp h1) dL_law_693 ?_
  rw [e1]
  refine lv_aload_n C.1 C.2.1 dL_law_694 rfl (kh_at hl 0 rfl) ?_
  refine lv_iload C.1 C.2.1 dL_law_695 (kh_at hl 4 rfl) ?_
  refine lv_iconst (v := (2 : Int32)) C.1 C.2.1 dL_law_697 (by decide) ?_
  refine lv_iadd C.1 C.2.1 dL_law_698 ?_
  refine va_sld C.1 C.2.1 hX hbl hbA hS (kh_in_vp h2) dL_law_699 ?_
  rw [e2]
  refine lv_aload_n C.1 C.2.1 dL_law_700 rfl (kh_at hl 3 rfl) ?_
  obtain ⟨k, ρ1, f1, hF⟩ := kh_bd2_ok hF
  refine kh_calliM (vx_runSW (As := [.ref (ad 0 0), .int a1, .int a2, .ref (ad 60 0)]) (rest := []) ⟨C.1, C.2.1, C.2.2.1, C.2.2.2.1, C.2.2.2.2.1⟩ (c_L_solve l hlt D ca A ad ρ a1 a2 f1) (vx_cwSW 4 C.2.2.2.2.1 gL_law_L_solve rfl rfl rfl (by decide +kernel) ⟨Nat.le_of_ble_eq_true rfl, Nat.le_of_ble_eq_true rfl⟩) ⟨kh_blindN, fun U hU hW => ⟨rfl, (kh_preJ C hT hw hS (as := [.ref (ad 0 0), .int a1, .int a2, .ref (ad 60 0)]) U hU hW).2, hN.moved hW.alike⟩⟩ rfl rfl hl.1.1 rfl (lv_room (kh_sum kh_an (Nat.le_of_ble_eq_true rfl))) dL_law_701 ⟨by show cells + 2 ≤ 601024; omega, by show slots + 12 ≤ 7293034; omega⟩) hS f1 (fun H locs hw hS => ?_)
  refine W.widen (k := cells + 5) (n := slots + 45) (Nat.add_le_add_left (Nat.le_of_ble_eq_true rfl) _) (Nat.add_le_add_left (Nat.le_of_ble_eq_true rfl) _) ?_
  refine kh_istore (lv' := [(5, .int k), (0, .ref b), (1, .ref (ad 0 0)), (2, .ref (ad 15 0)), (3, .ref (ad 60 0)), (4, .int i)]) C.1 C.2.1 dL_law_704 hl (by decide) rfl (fun ls hl => ?_)
  refine lv_aload_n C.1 C.2.1 dL_law_706 rfl (kh_at hl 3 rfl) ?_
  refine lv_aload_n C.1 C.2.1 dL_law_707 rfl (kh_at hl 1 rfl) ?_
  refine lv_iload C.1 C.2.1 dL_law_708 (kh_at hl 5 rfl) ?_
  refine lv_iconst (v := (1 : Int32)) C.1 C.2.1 dL_law_710 (by decide) ?_
  refine lv_iadd C.1 C.2.1 dL_law_711 ?_
  refine va_sld C.1 C.2.1 hX hbl hbA hS (kh_in_vp h1) dL_law_712 ?_
  rw [e1]
  refine lv_aload_n C.1 C.2.1 dL_law_713 rfl (kh_at hl 1 rfl) ?_
  refine lv_iload C.1 C.2.1 dL_law_714 (kh_at hl 5 rfl) ?_
  refine lv_iconst (v := (2 : Int32)) C.1 C.2.1 dL_law_716 (by decide) ?_
  refine lv_iadd C.1 C.2.1 dL_law_717 ?_
  refine va_sld C.1 C.2.1 hX hbl hbA hS (kh_in_vp h2) dL_law_718 ?_
  rw [e2]
  obtain ⟨u, ρ2, f2, hF⟩ := kh_bd2_ok hF
  refine kh_calli (va_runV (As := [.int a1, .int a2]) (rest := []) ⟨C.1, C.2.1, C.2.2.1, C.2.2.2.1, C.2.2.2.2.1⟩ (c_X5_solve l D ca A ad ρ1 a1 a2 f2) (cwV 2 C.2.2.2.2.1 gL_law_X5_solve rfl rfl rfl (by decide +kernel) ⟨Nat.le_of_ble_eq_true rfl, Nat.le_of_ble_eq_true rfl⟩) (kh_preV C hw hS 15 (kh_z15 ρ1) kh_kd15 rfl) rfl rfl hl.1.1 rfl (lv_room (kh_sum kh_an (Nat.le_of_ble_eq_true rfl))) dL_law_719 ⟨by show cells + 5 + 0 ≤ 601024; omega, by show slots + 45 + 0 ≤ 7293034; omega⟩) hS f2 (fun H locs hw hS => ?_)
  refine kh_istore (lv' := [(6, .int u), (5, .int k), (0, .ref b), (1, .ref (ad 0 0)), (2, .ref (ad 15 0)), (3, .ref (ad 60 0)), (4, .int i)]) C.1 C.2.1 dL_law_722 hl (by decide) rfl (fun ls hl => ?_)
  refine lv_aload_n C.1 C.2.1 dL_law_724 rfl (kh_at hl 4 rfl) ?_
  obtain ⟨t, f3, hF⟩ := kh_bd_ok hF
  refine kh_calli (va_runV (As := []) (rest := []) ⟨C.1, C.2.1, C.2.2.1, C.2.2.2.1, C.2.2.2.2.1⟩ (c_X5_thrown l D ca A ad ρ2 f3) (cwV 0 C.2.2.2.2.1 gL_law_X5_thrown rfl rfl rfl (by decide +kernel) ⟨Nat.le_of_ble_eq_true rfl, Nat.le_of_ble_eq_true rfl⟩) (kh_preV C hw hS 15 (kh_z15 ρ2) kh_kd15 rfl) rfl rfl hl.1.1 rfl (lv_room (kh_sum kh_an (Nat.le_of_ble_eq_true rfl))) dL_law_725 ⟨by show cells + 5 + 0 ≤ 601024; omega, by show slots + 45 + 0 ≤ 7293034; omega⟩) hS (kh_mp f3) (fun H locs hw hS => ?_)
  obtain ⟨g1, hF⟩ := kh_gd_ok hF
  obtain rfl := Option.some.inj hF
  simp only [Bool.and_eq_true, Bool.or_eq_true, Bool.not_eq_true', decide_eq_true_eq, decide_eq_false_iff_not] at g1
  obtain ⟨g1, g2⟩ := g1
  refine lv_iload C.1 C.2.1 dL_law_728 (kh_at hl 1 rfl) ?_
  refine lv_icmp_eq (tgt := 735) C.1 C.2.1 dL_law_730 (by decide) (fun _ => ?_) (fun c9 => absurd g1 c9)
  refine lv_iload C.1 C.2.1 dL_law_735 (kh_at hl 1 rfl) ?_
  refine lv_if_ne (tgt := 752) C.1 C.2.1 dL_law_737 (by decide) (fun c9 => ?_) (fun c9 => ?_)
  · refine lv_goto (tgt := 1492) C.1 C.2.1 dL_law_752 (by decide) ?_
    exact kk _ _ _ _ (kh_agr _ _) hw hS (kh_sub hl [2, 3, 4, 5, 6] rfl)
  have g3 := g2.resolve_left (fun z => z c9)
  refine lv_aload_n C.1 C.2.1 dL_law_740 rfl (kh_at hl 5 rfl) ?_
  refine lv_iconst (v := (0 : Int32)) C.1 C.2.1 dL_law_741 (by decide) ?_
  refine kh_lald C hw 60 rfl (kh_z60 ρ2) kh_kd60 (by decide) dL_law_742 ?_
  rw [g3]
  refine lv_iload C.1 C.2.1 dL_law_743 (kh_at hl 0 rfl) ?_
  refine lv_i2l (v := u.toInt64) C.1 C.2.1 dL_law_745 rfl ?_
  refine W.lcmp C.1 C.2.1 dL_law_746 ?_
  rw [kh_cmp0]
  refine lv_if_eq (tgt := 752) C.1 C.2.1 dL_law_747 (by decide) (fun _ => ?_) (fun c9 => absurd rfl c9)
  refine lv_goto (tgt := 1492) C.1 C.2.1 dL_law_752 (by decide) ?_
  exact kk _ _ _ _ (kh_agr _ _) hw hS (kh_sub hl [2, 3, 4, 5, 6] rfl)

def s_hint (ρ : kh_S) (a1 : Int32) : Option kh_S := kh_bd2 (f_L_hint ρ a1) (fun k ρ1 => kh_bd2 (f_X5_hint ρ1 a1) (fun b ρ2 => kh_bd (f_X5_thrown ρ2) (fun t => kh_gd (decide (t = k) && (!decide (k = 0) || decide (ρ2 60 0 0 (0 : Int32).toNatClampNeg = b))) (some ρ2))))
set_option maxHeartbeats 4000000 in
set_option maxRecDepth 100000 in
theorem w_hint (C0 : kh_At p l s m b c D ca A L xs) (hw : kh_w D ca A ad ρ H) (hS : va_S A s.heap H locs) (hl : kh_lv ls 7 (kh_ll b ad i)) (hc : cells + 5 ≤ 601024) (hs : slots + 45 ≤ 7293034) (h1 : kh_in (i + 1) L = true) (e1 : xs (i + 1).toNatClampNeg = a1) (hF : s_hint ρ a1 = some ρ') (kk : kh_kk p l e s m b below meth c cells slots Q D ca A ad ρ ρ' i) : W p l e room_1 s m #[.ref b] below meth c H locs cells slots Q (F0 m 755 ls []) := by
  obtain ⟨C, hlt, hT, hN, hX, hbl, hbA⟩ := C0
  unfold s_hint at hF
  have hl : kh_lv ls 7 [(0, .ref b), (1, .ref (ad 0 0)), (2, .ref (ad 15 0)), (3, .ref (ad 60 0)), (4, .int i)] := hl
  refine lv_aload_n C.1 C.2.1 dL_law_755 rfl (kh_at hl 1 rfl) ?_
  refine lv_aload_n C.1 C.2.1 dL_law_756 rfl (kh_at hl 0 rfl) ?_
  refine lv_iload C.1 C.2.1 dL_law_757 (kh_at hl 4 rfl) ?_
  refine lv_iconst (v := (1 : Int32)) C.1 C.2.1 dL_law_759 (by decide) ?_
  refine lv_iadd C.1 C.2.1 dL_law_760 ?_
  refine va_sld C.1 C.2.1 hX hbl hbA hS (kh_in_vp h1) dL_law_761 ?_
  rw [e1]
  refine lv_aload_n C.1 C.2.1 dL_law_762 rfl (kh_at hl 3 rfl) ?_
  obtain ⟨k, ρ1, f1, hF⟩ := kh_bd2_ok hF
  refine kh_calliM (vx_runSW (As := [.ref (ad 0 0), .int a1, .ref (ad 60 0)]) (rest := []) ⟨C.1, C.2.1, C.2.2.1, C.2.2.2.1, C.2.2.2.2.1⟩ (c_L_hint l hlt D ca A ad ρ a1 f1) (vx_cwSW 3 C.2.2.2.2.1 gL_law_L_hint rfl rfl rfl (by decide +kernel) ⟨Nat.le_of_ble_eq_true rfl, Nat.le_of_ble_eq_true rfl⟩) ⟨kh_blindN, fun U hU hW => ⟨rfl, (kh_preJ C hT hw hS (as := [.ref (ad 0 0), .int a1, .ref (ad 60 0)]) U hU hW).2, hN.moved hW.alike⟩⟩ rfl rfl hl.1.1 rfl (lv_room (kh_sum kh_an (Nat.le_of_ble_eq_true rfl))) dL_law_763 ⟨by show cells + 2 ≤ 601024; omega, by show slots + 12 ≤ 7293034; omega⟩) hS f1 (fun H locs hw hS => ?_)
  refine W.widen (k := cells + 5) (n := slots + 45) (Nat.add_le_add_left (Nat.le_of_ble_eq_true rfl) _) (Nat.add_le_add_left (Nat.le_of_ble_eq_true rfl) _) ?_
  refine kh_istore (lv' := [(5, .int k), (0, .ref b), (1, .ref (ad 0 0)), (2, .ref (ad 15 0)), (3, .ref (ad 60 0)), (4, .int i)]) C.1 C.2.1 dL_law_766 hl (by decide) rfl (fun ls hl => ?_)
  refine lv_aload_n C.1 C.2.1 dL_law_768 rfl (kh_at hl 3 rfl) ?_
  refine lv_aload_n C.1 C.2.1 dL_law_769 rfl (kh_at hl 1 rfl) ?_
  refine lv_iload C.1 C.2.1 dL_law_770 (kh_at hl 5 rfl) ?_
  refine lv_iconst (v := (1 : Int32)) C.1 C.2.1 dL_law_772 (by decide) ?_
  refine lv_iadd C.1 C.2.1 dL_law_773 ?_
  refine va_sld C.1 C.2.1 hX hbl hbA hS (kh_in_vp h1) dL_law_774 ?_
  rw [e1]
  obtain ⟨u, ρ2, f2, hF⟩ := kh_bd2_ok hF
  refine kh_calli (va_runV (As := [.int a1]) (rest := []) ⟨C.1, C.2.1, C.2.2.1, C.2.2.2.1, C.2.2.2.2.1⟩ (c_X5_hint l D ca A ad ρ1 a1 f2) (cwV 1 C.2.2.2.2.1 gL_law_X5_hint rfl rfl rfl (by decide +kernel) ⟨Nat.le_of_ble_eq_true rfl, Nat.le_of_ble_eq_true rfl⟩) (kh_preV C hw hS 15 (kh_z15 ρ1) kh_kd15 rfl) rfl rfl hl.1.1 rfl (lv_room (kh_sum kh_an (Nat.le_of_ble_eq_true rfl))) dL_law_775 ⟨by show cells + 5 + 0 ≤ 601024; omega, by show slots + 45 + 0 ≤ 7293034; omega⟩) hS f2 (fun H locs hw hS => ?_)
  refine kh_istore (lv' := [(6, .int u), (5, .int k), (0, .ref b), (1, .ref (ad 0 0)), (2, .ref (ad 15 0)), (3, .ref (ad 60 0)), (4, .int i)]) C.1 C.2.1 dL_law_778 hl (by decide) rfl (fun ls hl => ?_)
  refine lv_aload_n C.1 C.2.1 dL_law_780 rfl (kh_at hl 4 rfl) ?_
  obtain ⟨t, f3, hF⟩ := kh_bd_ok hF
  refine kh_calli (va_runV (As := []) (rest := []) ⟨C.1, C.2.1, C.2.2.1, C.2.2.2.1, C.2.2.2.2.1⟩ (c_X5_thrown l D ca A ad ρ2 f3) (cwV 0 C.2.2.2.2.1 gL_law_X5_thrown rfl rfl rfl (by decide +kernel) ⟨Nat.le_of_ble_eq_true rfl, Nat.le_of_ble_eq_true rfl⟩) (kh_preV C hw hS 15 (kh_z15 ρ2) kh_kd15 rfl) rfl rfl hl.1.1 rfl (lv_room (kh_sum kh_an (Nat.le_of_ble_eq_true rfl))) dL_law_781 ⟨by show cells + 5 + 0 ≤ 601024; omega, by show slots + 45 + 0 ≤ 7293034; omega⟩) hS (kh_mp f3) (fun H locs hw hS => ?_)
  obtain ⟨g1, hF⟩ := kh_gd_ok hF
  obtain rfl := Option.some.inj hF
  simp only [Bool.and_eq_true, Bool.or_eq_true, Bool.not_eq_true', decide_eq_true_eq, decide_eq_false_iff_not] at g1
  obtain ⟨g1, g2⟩ := g1
  refine lv_iload C.1 C.2.1 dL_law_784 (kh_at hl 1 rfl) ?_
  refine lv_icmp_eq (tgt := 791) C.1 C.2.1 dL_law_786 (by decide) (fun _ => ?_) (fun c9 => absurd g1 c9)
  refine lv_iload C.1 C.2.1 dL_law_791 (kh_at hl 1 rfl) ?_
  refine lv_if_ne (tgt := 808) C.1 C.2.1 dL_law_793 (by decide) (fun c9 => ?_) (fun c9 => ?_)
  · refine lv_goto (tgt := 1492) C.1 C.2.1 dL_law_808 (by decide) ?_
    exact kk _ _ _ _ (kh_agr _ _) hw hS (kh_sub hl [2, 3, 4, 5, 6] rfl)
  have g3 := g2.resolve_left (fun z => z c9)
  refine lv_aload_n C.1 C.2.1 dL_law_796 rfl (kh_at hl 5 rfl) ?_
  refine lv_iconst (v := (0 : Int32)) C.1 C.2.1 dL_law_797 (by decide) ?_
  refine kh_lald C hw 60 rfl (kh_z60 ρ2) kh_kd60 (by decide) dL_law_798 ?_
  rw [g3]
  refine lv_iload C.1 C.2.1 dL_law_799 (kh_at hl 0 rfl) ?_
  refine lv_i2l (v := u.toInt64) C.1 C.2.1 dL_law_801 rfl ?_
  refine W.lcmp C.1 C.2.1 dL_law_802 ?_
  rw [kh_cmp0]
  refine lv_if_eq (tgt := 808) C.1 C.2.1 dL_law_803 (by decide) (fun _ => ?_) (fun c9 => absurd rfl c9)
  refine lv_goto (tgt := 1492) C.1 C.2.1 dL_law_808 (by decide) ?_
  exact kk _ _ _ _ (kh_agr _ _) hw hS (kh_sub hl [2, 3, 4, 5, 6] rfl)

def s_giveUp (ρ : kh_S) (a1 : Int32) : Option kh_S := kh_bd2 (f_L_giveUp ρ a1) (fun k ρ1 => kh_bd (f_X5_giveUp ρ1 a1) (fun ρ2 => kh_bd (f_X5_thrown ρ2) (fun t => kh_gd (decide (t = k)) (some ρ2))))
set_option maxHeartbeats 4000000 in
set_option maxRecDepth 100000 in
theorem w_giveUp (C0 : kh_At p l s m b c D ca A L xs) (hw : kh_w D ca A ad ρ H) (hS : va_S A s.heap H locs) (hl : kh_lv ls 7 (kh_ll b ad i)) (hc : cells + 5 ≤ 601024) (hs : slots + 45 ≤ 7293034) (h1 : kh_in (i + 1) L = true) (e1 : xs (i + 1).toNatClampNeg = a1) (hF : s_giveUp ρ a1 = some ρ') (kk : kh_kk p l e s m b below meth c cells slots Q D ca A ad ρ ρ' i) : W p l e room_1 s m #[.ref b] below meth c H locs cells slots Q (F0 m 811 ls []) := by
  obtain ⟨C, hlt, hT, hN, hX, hbl, hbA⟩ := C0
  unfold s_giveUp at hF
  have hl : kh_lv ls 7 [(0, .ref b), (1, .ref (ad 0 0)), (2, .ref (ad 15 0)), (3, .ref (ad 60 0)), (4, .int i)] := hl
  refine lv_aload_n C.1 C.2.1 dL_law_811 rfl (kh_at hl 1 rfl) ?_
  refine lv_aload_n C.1 C.2.1 dL_law_812 rfl (kh_at hl 0 rfl) ?_
  refine lv_iload C.1 C.2.1 dL_law_813 (kh_at hl 4 rfl) ?_
  refine lv_iconst (v := (1 : Int32)) C.1 C.2.1 dL_law_815 (by decide) ?_
  refine lv_iadd C.1 C.2.1 dL_law_816 ?_
  refine va_sld C.1 C.2.1 hX hbl hbA hS (kh_in_vp h1) dL_law_817 ?_
  rw [e1]
  obtain ⟨k, ρ1, f1, hF⟩ := kh_bd2_ok hF
  refine kh_calliM (vx_runSW (As := [.ref (ad 0 0), .int a1]) (rest := []) ⟨C.1, C.2.1, C.2.2.1, C.2.2.2.1, C.2.2.2.2.1⟩ (c_L_giveUp l hlt D ca A ad ρ a1 f1) (vx_cwSW 2 C.2.2.2.2.1 gL_law_L_giveUp rfl rfl rfl (by decide +kernel) ⟨Nat.le_of_ble_eq_true rfl, Nat.le_of_ble_eq_true rfl⟩) ⟨kh_blindN, fun U hU hW => ⟨rfl, (kh_preJ C hT hw hS (as := [.ref (ad 0 0), .int a1]) U hU hW).2, hN.moved hW.alike⟩⟩ rfl rfl hl.1.1 rfl (lv_room (kh_sum kh_an (Nat.le_of_ble_eq_true rfl))) dL_law_818 ⟨by show cells + 2 ≤ 601024; omega, by show slots + 12 ≤ 7293034; omega⟩) hS f1 (fun H locs hw hS => ?_)
  refine W.widen (k := cells + 5) (n := slots + 45) (Nat.add_le_add_left (Nat.le_of_ble_eq_true rfl) _) (Nat.add_le_add_left (Nat.le_of_ble_eq_true rfl) _) ?_
  refine kh_istore (lv' := [(5, .int k), (0, .ref b), (1, .ref (ad 0 0)), (2, .ref (ad 15 0)), (3, .ref (ad 60 0)), (4, .int i)]) C.1 C.2.1 dL_law_821 hl (by decide) rfl (fun ls hl => ?_)
  refine lv_aload_n C.1 C.2.1 dL_law_823 rfl (kh_at hl 3 rfl) ?_
  refine lv_aload_n C.1 C.2.1 dL_law_824 rfl (kh_at hl 1 rfl) ?_
  refine lv_iload C.1 C.2.1 dL_law_825 (kh_at hl 5 rfl) ?_
  refine lv_iconst (v := (1 : Int32)) C.1 C.2.1 dL_law_827 (by decide) ?_
  refine lv_iadd C.1 C.2.1 dL_law_828 ?_
  refine va_sld C.1 C.2.1 hX hbl hbA hS (kh_in_vp h1) dL_law_829 ?_
  rw [e1]
  obtain ⟨ρ2, f2, hF⟩ := kh_bd_ok hF
  refine kh_callv (va_runV (As := [.int a1]) (rest := []) ⟨C.1, C.2.1, C.2.2.1, C.2.2.2.1, C.2.2.2.2.1⟩ (c_X5_giveUp l D ca A ad ρ1 a1 f2) (cwV 1 C.2.2.2.2.1 gL_law_X5_giveUp rfl rfl rfl (by decide +kernel) ⟨Nat.le_of_ble_eq_true rfl, Nat.le_of_ble_eq_true rfl⟩) (kh_preV C hw hS 15 (kh_z15 ρ1) kh_kd15 rfl) rfl rfl hl.1.1 rfl (lv_room (kh_sum kh_an (Nat.le_of_ble_eq_true rfl))) dL_law_830 ⟨by show cells + 5 + 0 ≤ 601024; omega, by show slots + 45 + 0 ≤ 7293034; omega⟩) hS f2 (fun H locs hw hS => ?_)
  refine lv_aload_n C.1 C.2.1 dL_law_833 rfl (kh_at hl 3 rfl) ?_
  obtain ⟨t, f3, hF⟩ := kh_bd_ok hF
  refine kh_calli (va_runV (As := []) (rest := []) ⟨C.1, C.2.1, C.2.2.1, C.2.2.2.1, C.2.2.2.2.1⟩ (c_X5_thrown l D ca A ad ρ2 f3) (cwV 0 C.2.2.2.2.1 gL_law_X5_thrown rfl rfl rfl (by decide +kernel) ⟨Nat.le_of_ble_eq_true rfl, Nat.le_of_ble_eq_true rfl⟩) (kh_preV C hw hS 15 (kh_z15 ρ2) kh_kd15 rfl) rfl rfl hl.1.1 rfl (lv_room (kh_sum kh_an (Nat.le_of_ble_eq_true rfl))) dL_law_834 ⟨by show cells + 5 + 0 ≤ 601024; omega, by show slots + 45 + 0 ≤ 7293034; omega⟩) hS (kh_mp f3) (fun H locs hw hS => ?_)
  obtain ⟨g1, hF⟩ := kh_gd_ok hF
  obtain rfl := Option.some.inj hF
  simp only [decide_eq_true_eq] at g1
  refine lv_iload C.1 C.2.1 dL_law_837 (kh_at hl 0 rfl) ?_
  refine lv_icmp_eq (tgt := 844) C.1 C.2.1 dL_law_839 (by decide) (fun _ => ?_) (fun c9 => absurd g1 c9)
  refine lv_goto (tgt := 1492) C.1 C.2.1 dL_law_844 (by decide) ?_
  exact kk _ _ _ _ (kh_agr _ _) hw hS (kh_sub hl [1, 2, 3, 4, 5] rfl)

def s_reset (ρ : kh_S) (a1 : Int32) (a2 : Int32) (a3 : Int32) : Option kh_S := kh_bd2 (f_L_reset ρ a1 a2 (if a3 = 0 then (0 : Int32) else 1)) (fun k ρ1 => kh_bd (f_X5_reset ρ1 a1 a2 (if a3 = 0 then (0 : Int32) else 1)) (fun ρ2 => kh_bd (f_X5_thrown ρ2) (fun t => kh_gd (decide (t = k)) (some ρ2))))
set_option maxHeartbeats 4000000 in
set_option maxRecDepth 100000 in
theorem w_reset (C0 : kh_At p l s m b c D ca A L xs) (hw : kh_w D ca A ad ρ H) (hS : va_S A s.heap H locs) (hl : kh_lv ls 7 (kh_ll b ad i)) (hc : cells + 5 ≤ 601024) (hs : slots + 45 ≤ 7293034) (h1 : kh_in (i + 1) L = true) (e1 : xs (i + 1).toNatClampNeg = a1) (h2 : kh_in (i + 2) L = true) (e2 : xs (i + 2).toNatClampNeg = a2) (h3 : kh_in (i + 3) L = true) (e3 : xs (i + 3).toNatClampNeg = a3) (hF : s_reset ρ a1 a2 a3 = some ρ') (kk : kh_kk p l e s m b below meth c cells slots Q D ca A ad ρ ρ' i) : W p l e room_1 s m #[.ref b] below meth c H locs cells slots Q (F0 m 847 ls []) := by
  obtain ⟨C, hlt, hT, hN, hX, hbl, hbA⟩ := C0
  unfold s_reset at hF
  have hl : kh_lv ls 7 [(0, .ref b), (1, .ref (ad 0 0)), (2, .ref (ad 15 0)), (3, .ref (ad 60 0)), (4, .int i)] := hl
  by_cases z3 : a3 = 0
  · rw [if_pos z3] at hF
    refine lv_aload_n C.1 C.2.1 dL_law_847 rfl (kh_at hl 1 rfl) ?_
    refine lv_aload_n C.1 C.2.1 dL_law_848 rfl (kh_at hl 0 rfl) ?_
    refine lv_iload C.1 C.2.1 dL_law_849 (kh_at hl 4 rfl) ?_
    refine lv_iconst (v := (1 : Int32)) C.1 C.2.1 dL_law_851 (by decide) ?_
    refine lv_iadd C.1 C.2.1 dL_law_852 ?_
    refine va_sld C.1 C.2.1 hX hbl hbA hS (kh_in_vp h1) dL_law_853 ?_
    rw [e1]
    refine lv_aload_n C.1 C.2.1 dL_law_854 rfl (kh_at hl 0 rfl) ?_
    refine lv_iload C.1 C.2.1 dL_law_855 (kh_at hl 4 rfl) ?_
    refine lv_iconst (v := (2 : Int32)) C.1 C.2.1 dL_law_857 (by decide) ?_
    refine lv_iadd C.1 C.2.1 dL_law_858 ?_
    refine va_sld C.1 C.2.1 hX hbl hbA hS (kh_in_vp h2) dL_law_859 ?_
    rw [e2]
    refine lv_aload_n C.1 C.2.1 dL_law_860 rfl (kh_at hl 0 rfl) ?_
    refine lv_iload C.1 C.2.1 dL_law_861 (kh_at hl 4 rfl) ?_
    refine lv_iconst (v := (3 : Int32)) C.1 C.2.1 dL_law_863 (by decide) ?_
    refine lv_iadd C.1 C.2.1 dL_law_864 ?_
    refine va_sld C.1 C.2.1 hX hbl hbA hS (kh_in_vp h3) dL_law_865 ?_
    rw [e3]
    refine lv_if_eq (tgt := 873) C.1 C.2.1 dL_law_866 (by decide) (fun _ => ?_) (fun c9 => absurd z3 c9)
    refine lv_iconst (v := (0 : Int32)) C.1 C.2.1 dL_law_873 (by decide) ?_
    obtain ⟨k, ρ1, f1, hF⟩ := kh_bd2_ok hF
    refine kh_calliM (vx_runSW (As := [.ref (ad 0 0), .int a1, .int a2, .int (0 : Int32)]) (rest := []) ⟨C.1, C.2.1, C.2.2.1, C.2.2.2.1, C.2.2.2.2.1⟩ (c_L_reset l hlt D ca A ad ρ a1 a2 (0 : Int32) f1) (vx_cwSW 4 C.2.2.2.2.1 gL_law_L_reset rfl rfl rfl (by decide +kernel) ⟨Nat.le_of_ble_eq_true rfl, Nat.le_of_ble_eq_true rfl⟩) ⟨kh_blindN, fun U hU hW => ⟨rfl, (kh_preJ C hT hw hS (as := [.ref (ad 0 0), .int a1, .int a2, .int (0 : Int32)]) U hU hW).2, hN.moved hW.alike⟩⟩ rfl rfl hl.1.1 rfl (lv_room (kh_sum kh_an (Nat.le_of_ble_eq_true rfl))) dL_law_874 ⟨by show cells + 3 ≤ 601024; omega, by show slots + 18 ≤ 7293034; omega⟩) hS f1 (fun H locs hw hS => ?_)
    refine W.widen (k := cells + 5) (n := slots + 45) (Nat.add_le_add_left (Nat.le_of_ble_eq_true rfl) _) (Nat.add_le_add_left (Nat.le_of_ble_eq_true rfl) _) ?_
    refine kh_istore (lv' := [(5, .int k), (0, .ref b), (1, .ref (ad 0 0)), (2, .ref (ad 15 0)), (3, .ref (ad 60 0)), (4, .int i)]) C.1 C.2.1 dL_law_877 hl (by decide) rfl (fun ls hl => ?_)
    refine lv_aload_n C.1 C.2.1 dL_law_879 rfl (kh_at hl 3 rfl) ?_
    refine lv_aload_n C.1 C.2.1 dL_law_880 rfl (kh_at hl 1 rfl) ?_
    refine lv_iload C.1 C.2.1 dL_law_881 (kh_at hl 5 rfl) ?_
    refine lv_iconst (v := (1 : Int32)) C.1 C.2.1 dL_law_883 (by decide) ?_
    refine lv_iadd C.1 C.2.1 dL_law_884 ?_
    refine va_sld C.1 C.2.1 hX hbl hbA hS (kh_in_vp h1) dL_law_885 ?_
    rw [e1]
    refine lv_aload_n C.1 C.2.1 dL_law_886 rfl (kh_at hl 1 rfl) ?_
    refine lv_iload C.1 C.2.1 dL_law_887 (kh_at hl 5 rfl) ?_
    refine lv_iconst (v := (2 : Int32)) C.1 C.2.1 dL_law_889 (by decide) ?_
    refine lv_iadd C.1 C.2.1 dL_law_890 ?_
    refine va_sld C.1 C.2.1 hX hbl hbA hS (kh_in_vp h2) dL_law_891 ?_
    rw [e2]
    refine lv_aload_n C.1 C.2.1 dL_law_892 rfl (kh_at hl 1 rfl) ?_
    refine lv_iload C.1 C.2.1 dL_law_893 (kh_at hl 5 rfl) ?_
    refine lv_iconst (v := (3 : Int32)) C.1 C.2.1 dL_law_895 (by decide) ?_
    refine lv_iadd C.1 C.2.1 dL_law_896 ?_
    refine va_sld C.1 C.2.1 hX hbl hbA hS (kh_in_vp h3) dL_law_897 ?_
    rw [e3]
    refine lv_if_eq (tgt := 905) C.1 C.2.1 dL_law_898 (by decide) (fun _ => ?_) (fun c9 => absurd z3 c9)
    refine lv_iconst (v := (0 : Int32)) C.1 C.2.1 dL_law_905 (by decide) ?_
    obtain ⟨ρ2, f2, hF⟩ := kh_bd_ok hF
    refine kh_callv (va_runV (As := [.int a1, .int a2, .int (0 : Int32)]) (rest := []) ⟨C.1, C.2.1, C.2.2.1, C.2.2.2.1, C.2.2.2.2.1⟩ (c_X5_reset l D ca A ad ρ1 a1 a2 (0 : Int32) f2) (cwV 3 C.2.2.2.2.1 gL_law_X5_reset rfl rfl rfl (by decide +kernel) ⟨Nat.le_of_ble_eq_true rfl, Nat.le_of_ble_eq_true rfl⟩) (kh_preV C hw hS 15 (kh_z15 ρ1) kh_kd15 rfl) rfl rfl hl.1.1 rfl (lv_room (kh_sum kh_an (Nat.le_of_ble_eq_true rfl))) dL_law_906 ⟨by show cells + 5 + 0 ≤ 601024; omega, by show slots + 45 + 0 ≤ 7293034; omega⟩) hS f2 (fun H locs hw hS => ?_)
    refine lv_aload_n C.1 C.2.1 dL_law_909 rfl (kh_at hl 3 rfl) ?_
    obtain ⟨t, f3, hF⟩ := kh_bd_ok hF
    refine kh_calli (va_runV (As := []) (rest := []) ⟨C.1, C.2.1, C.2.2.1, C.2.2.2.1, C.2.2.2.2.1⟩ (c_X5_thrown l D ca A ad ρ2 f3) (cwV 0 C.2.2.2.2.1 gL_law_X5_thrown rfl rfl rfl (by decide +kernel) ⟨Nat.le_of_ble_eq_true rfl, Nat.le_of_ble_eq_true rfl⟩) (kh_preV C hw hS 15 (kh_z15 ρ2) kh_kd15 rfl) rfl rfl hl.1.1 rfl (lv_room (kh_sum kh_an (Nat.le_of_ble_eq_true rfl))) dL_law_910 ⟨by show cells + 5 + 0 ≤ 601024; omega, by show slots + 45 + 0 ≤ 7293034; omega⟩) hS (kh_mp f3) (fun H locs hw hS => ?_)
    obtain ⟨g1, hF⟩ := kh_gd_ok hF
    obtain rfl := Option.some.inj hF
    simp only [decide_eq_true_eq] at g1
    refine lv_iload C.1 C.2.1 dL_law_913 (kh_at hl 0 rfl) ?_
    refine lv_icmp_eq (tgt := 920) C.1 C.2.1 dL_law_915 (by decide) (fun _ => ?_) (fun c9 => absurd g1 c9)
    refine lv_goto (tgt := 1492) C.1 C.2.1 dL_law_920 (by decide) ?_
    exact kk _ _ _ _ (kh_agr _ _) hw hS (kh_sub hl [1, 2, 3, 4, 5] rfl)
  rw [if_neg z3] at hF
  refine lv_aload_n C.1 C.2.1 dL_law_847 rfl (kh_at hl 1 rfl) ?_
  refine lv_aload_n C.1 C.2.1 dL_law_848 rfl (kh_at hl 0 rfl) ?_
  refine lv_iload C.1 C.2.1 dL_law_849 (kh_at hl 4 rfl) ?_
  refine lv_iconst (v := (1 : Int32)) C.1 C.2.1 dL_law_851 (by decide) ?_
  refine lv_iadd C.1 C.2.1 dL_law_852 ?_
  refine va_sld C.1 C.2.1 hX hbl hbA hS (kh_in_vp h1) dL_law_853 ?_
  rw [e1]
  refine lv_aload_n C.1 C.2.1 dL_law_854 rfl (kh_at hl 0 rfl) ?_
  refine lv_iload C.1 C.2.1 dL_law_855 (kh_at hl 4 rfl) ?_
  refine lv_iconst (v := (2 : Int32)) C.1 C.2.1 dL_law_857 (by decide) ?_
  refine lv_iadd C.1 C.2.1 dL_law_858 ?_
  refine va_sld C.1 C.2.1 hX hbl hbA hS (kh_in_vp h2) dL_law_859 ?_
  rw [e2]
  refine lv_aload_n C.1 C.2.1 dL_law_860 rfl (kh_at hl 0 rfl) ?_
  refine lv_iload C.1 C.2.1 dL_law_861 (kh_at hl 4 rfl) ?_
  refine lv_iconst (v := (3 : Int32)) C.1 C.2.1 dL_law_863 (by decide) ?_
  refine lv_iadd C.1 C.2.1 dL_law_864 ?_
  refine va_sld C.1 C.2.1 hX hbl hbA hS (kh_in_vp h3) dL_law_865 ?_
  rw [e3]
  refine lv_if_eq (tgt := 873) C.1 C.2.1 dL_law_866 (by decide) (fun c9 => absurd c9 z3) (fun _ => ?_)
  refine lv_iconst (v := (1 : Int32)) C.1 C.2.1 dL_law_869 (by decide) ?_
  refine lv_goto (tgt := 874) C.1 C.2.1 dL_law_870 (by decide) ?_
  obtain ⟨k, ρ1, f1, hF⟩ := kh_bd2_ok hF
  refine kh_calliM (vx_runSW (As := [.ref (ad 0 0), .int a1, .int a2, .int (1 : Int32)]) (rest := []) ⟨C.1, C.2.1, C.2.2.1, C.2.2.2.1, C.2.2.2.2.1⟩ (c_L_reset l hlt D ca A ad ρ a1 a2 (1 : Int32) f1) (vx_cwSW 4 C.2.2.2.2.1 gL_law_L_reset rfl rfl rfl (by decide +kernel) ⟨Nat.le_of_ble_eq_true rfl, Nat.le_of_ble_eq_true rfl⟩) ⟨kh_blindN, fun U hU hW => ⟨rfl, (kh_preJ C hT hw hS (as := [.ref (ad 0 0), .int a1, .int a2, .int (1 : Int32)]) U hU hW).2, hN.moved hW.alike⟩⟩ rfl rfl hl.1.1 rfl (lv_room (kh_sum kh_an (Nat.le_of_ble_eq_true rfl))) dL_law_874 ⟨by show cells + 3 ≤ 601024; omega, by show slots + 18 ≤ 7293034; omega⟩) hS f1 (fun H locs hw hS => ?_)
  refine W.widen (k := cells + 5) (n := slots + 45) (Nat.add_le_add_left (Nat.le_of_ble_eq_true rfl) _) (Nat.add_le_add_left (Nat.le_of_ble_eq_true rfl) _) ?_
  refine kh_istore (lv' := [(5, .int k), (0, .ref b), (1, .ref (ad 0 0)), (2, .ref (ad 15 0)), (3, .ref (ad 60 0)), (4, .int i)]) C.1 C.2.1 dL_law_877 hl (by decide) rfl (fun ls hl => ?_)
  refine lv_aload_n C.1 C.2.1 dL_law_879 rfl (kh_at hl 3 rfl) ?_
  refine lv_aload_n C.1 C.2.1 dL_law_880 rfl (kh_at hl 1 rfl) ?_
  refine lv_iload C.1 C.2.1 dL_law_881 (kh_at hl 5 rfl) ?_
  refine lv_iconst (v := (1 : Int32)) C.1 C.2.1 dL_law_883 (by decide) ?_
  refine lv_iadd C.1 C.2.1 dL_law_884 ?_
  refine va_sld C.1 C.2.1 hX hbl hbA hS (kh_in_vp h1) dL_law_885 ?_
  rw [e1]
  refine lv_aload_n C.1 C.2.1 dL_law_886 rfl (kh_at hl 1 rfl) ?_
  refine lv_iload C.1 C.2.1 dL_law_887 (kh_at hl 5 rfl) ?_
  refine lv_iconst (v := (2 : Int32)) C.1 C.2.1 dL_law_889 (by decide) ?_
  refine lv_iadd C.1 C.2.1 dL_law_890 ?_
  refine va_sld C.1 C.2.1 hX hbl hbA hS (kh_in_vp h2) dL_law_891 ?_
  rw [e2]
  refine lv_aload_n C.1 C.2.1 dL_law_892 rfl (kh_at hl 1 rfl) ?_
  refine lv_iload C.1 C.2.1 dL_law_893 (kh_at hl 5 rfl) ?_
  refine lv_iconst (v := (3 : Int32)) C.1 C.2.1 dL_law_895 (by decide) ?_
  refine lv_iadd C.1 C.2.1 dL_law_896 ?_
  refine va_sld C.1 C.2.1 hX hbl hbA hS (kh_in_vp h3) dL_law_897 ?_
  rw [e3]
  refine lv_if_eq (tgt := 905) C.1 C.2.1 dL_law_898 (by decide) (fun c9 => absurd c9 z3) (fun _ => ?_)
  refine lv_iconst (v := (1 : Int32)) C.1 C.2.1 dL_law_901 (by decide) ?_
  refine lv_goto (tgt := 906) C.1 C.2.1 dL_law_902 (by decide) ?_
  obtain ⟨ρ2, f2, hF⟩ := kh_bd_ok hF
  refine kh_callv (va_runV (As := [.int a1, .int a2, .int (1 : Int32)]) (rest := []) ⟨C.1, C.2.1, C.2.2.1, C.2.2.2.1, C.2.2.2.2.1⟩ (c_X5_reset l D ca A ad ρ1 a1 a2 (1 : Int32) f2) (cwV 3 C.2.2.2.2.1 gL_law_X5_reset rfl rfl rfl (by decide +kernel) ⟨Nat.le_of_ble_eq_true rfl, Nat.le_of_ble_eq_true rfl⟩) (kh_preV C hw hS 15 (kh_z15 ρ1) kh_kd15 rfl) rfl rfl hl.1.1 rfl (lv_room (kh_sum kh_an (Nat.le_of_ble_eq_true rfl))) dL_law_906 ⟨by show cells + 5 + 0 ≤ 601024; omega, by show slots + 45 + 0 ≤ 7293034; omega⟩) hS f2 (fun H locs hw hS => ?_)
  refine lv_aload_n C.1 C.2.1 dL_law_909 rfl (kh_at hl 3 rfl) ?_
  obtain ⟨t, f3, hF⟩ := kh_bd_ok hF
  refine kh_calli (va_runV (As := []) (rest := []) ⟨C.1, C.2.1, C.2.2.1, C.2.2.2.1, C.2.2.2.2.1⟩ (c_X5_thrown l D ca A ad ρ2 f3) (cwV 0 C.2.2.2.2.1 gL_law_X5_thrown rfl rfl rfl (by decide +kernel) ⟨Nat.le_of_ble_eq_true rfl, Nat.le_of_ble_eq_true rfl⟩) (kh_preV C hw hS 15 (kh_z15 ρ2) kh_kd15 rfl) rfl rfl hl.1.1 rfl (lv_room (kh_sum kh_an (Nat.le_of_ble_eq_true rfl))) dL_law_910 ⟨by show cells + 5 + 0 ≤ 601024; omega, by show slots + 45 + 0 ≤ 7293034; omega⟩) hS (kh_mp f3) (fun H locs hw hS => ?_)
  obtain ⟨g1, hF⟩ := kh_gd_ok hF
  obtain rfl := Option.some.inj hF
  simp only [decide_eq_true_eq] at g1
  refine lv_iload C.1 C.2.1 dL_law_913 (kh_at hl 0 rfl) ?_
  refine lv_icmp_eq (tgt := 920) C.1 C.2.1 dL_law_915 (by decide) (fun _ => ?_) (fun c9 => absurd g1 c9)
  refine lv_goto (tgt := 1492) C.1 C.2.1 dL_law_920 (by decide) ?_
  exact kk _ _ _ _ (kh_agr _ _) hw hS (kh_sub hl [1, 2, 3, 4, 5] rfl)

def s_forget (ρ : kh_S) (a1 : Int32) : Option kh_S := kh_bd2 (f_L_forget ρ a1) (fun k ρ1 => kh_bd2 (f_X5_forget ρ1 a1) (fun b ρ2 => kh_bd (f_X5_thrown ρ2) (fun t => kh_gd (decide (t = k) && (!decide (k = 0) || decide (ρ2 60 0 0 (0 : Int32).toNatClampNeg = b))) (some ρ2))))
set_option maxHeartbeats 4000000 in
set_option maxRecDepth 100000 in
theorem w_forget (C0 : kh_At p l s m b c D ca A L xs) (hw : kh_w D ca A ad ρ H) (hS : va_S A s.heap H locs) (hl : kh_lv ls 7 (kh_ll b ad i)) (hc : cells + 5 ≤ 601024) (hs : slots + 45 ≤ 7293034) (h1 : kh_in (i + 1) L = true) (e1 : xs (i + 1).toNatClampNeg = a1) (hF : s_forget ρ a1 = some ρ') (kk : kh_kk p l e s m b below meth c cells slots Q D ca A ad ρ ρ' i) : W p l e room_1 s m #[.ref b] below meth c H locs cells slots Q (F0 m 923 ls []) := by
  obtain ⟨C, hlt, hT, hN, hX, hbl, hbA⟩ := C0
  unfold s_forget at hF
  have hl : kh_lv ls 7 [(0, .ref b), (1, .ref (ad 0 0)), (2, .ref (ad 15 0)), (3, .ref (ad 60 0)), (4, .int i)] := hl
  refine lv_aload_n C.1 C.2.1 dL_law_923 rfl (kh_at hl 1 rfl) ?_
  refine lv_aload_n C.1 C.2.1 dL_law_924 rfl (kh_at hl 0 rfl) ?_
  refine lv_iload C.1 C.2.1 dL_law_925 (kh_at hl 4 rfl) ?_
  refine lv_iconst (v := (1 : Int32)) C.1 C.2.1 dL_law_927 (by decide) ?_
  refine lv_iadd C.1 C.2.1 dL_law_928 ?_
  refine va_sld C.1 C.2.1 hX hbl hbA hS (kh_in_vp h1) dL_law_929 ?_
  rw [e1]
  refine lv_aload_n C.1 C.2.1 dL_law_930 rfl (kh_at hl 3 rfl) ?_
  obtain ⟨k, ρ1, f1, hF⟩ := kh_bd2_ok hF
  refine kh_calliM (vx_runSW (As := [.ref (ad 0 0), .int a1, .ref (ad 60 0)]) (rest := []) ⟨C.1, C.2.1, C.2.2.1, C.2.2.2.1, C.2.2.2.2.1⟩ (c_L_forget l hlt D ca A ad ρ a1 f1) (vx_cwSW 3 C.2.2.2.2.1 gL_law_L_forget rfl rfl rfl (by decide +kernel) ⟨Nat.le_of_ble_eq_true rfl, Nat.le_of_ble_eq_true rfl⟩) ⟨kh_blindN, fun U hU hW => ⟨rfl, (kh_preJ C hT hw hS (as := [.ref (ad 0 0), .int a1, .ref (ad 60 0)]) U hU hW).2, hN.moved hW.alike⟩⟩ rfl rfl hl.1.1 rfl (lv_room (kh_sum kh_an (Nat.le_of_ble_eq_true rfl))) dL_law_931 ⟨by show cells + 2 ≤ 601024; omega, by show slots + 12 ≤ 7293034; omega⟩) hS f1 (fun H locs hw hS => ?_)
  refine W.widen (k := cells + 5) (n := slots + 45) (Nat.add_le_add_left (Nat.le_of_ble_eq_true rfl) _) (Nat.add_le_add_left (Nat.le_of_ble_eq_true rfl) _) ?_
  refine kh_istore (lv' := [(5, .int k), (0, .ref b), (1, .ref (ad 0 0)), (2, .ref (ad 15 0)), (3, .ref (ad 60 0)), (4, .int i)]) C.1 C.2.1 dL_law_934 hl (by decide) rfl (fun ls hl => ?_)
  refine lv_aload_n C.1 C.2.1 dL_law_936 rfl (kh_at hl 3 rfl) ?_
  refine lv_aload_n C.1 C.2.1 dL_law_937 rfl (kh_at hl 1 rfl) ?_
  refine lv_iload C.1 C.2.1 dL_law_938 (kh_at hl 5 rfl) ?_
  refine lv_iconst (v := (1 : Int32)) C.1 C.2.1 dL_law_940 (by decide) ?_
  refine lv_iadd C.1 C.2.1 dL_law_941 ?_
  refine va_sld C.1 C.2.1 hX hbl hbA hS (kh_in_vp h1) dL_law_942 ?_
  rw [e1]
  obtain ⟨u, ρ2, f2, hF⟩ := kh_bd2_ok hF
  refine kh_calli (va_runV (As := [.int a1]) (rest := []) ⟨C.1, C.2.1, C.2.2.1, C.2.2.2.1, C.2.2.2.2.1⟩ (c_X5_forget l D ca A ad ρ1 a1 f2) (cwV 1 C.2.2.2.2.1 gL_law_X5_forget rfl rfl rfl (by decide +kernel) ⟨Nat.le_of_ble_eq_true rfl, Nat.le_of_ble_eq_true rfl⟩) (kh_preV C hw hS 15 (kh_z15 ρ1) kh_kd15 rfl) rfl rfl hl.1.1 rfl (lv_room (kh_sum kh_an (Nat.le_of_ble_eq_true rfl))) dL_law_943 ⟨by show cells + 5 + 0 ≤ 601024; omega, by show slots + 45 + 0 ≤ 7293034; omega⟩) hS f2 (fun H locs hw hS => ?_)
  refine kh_istore (lv' := [(6, .int u), (5, .int k), (0, .ref b), (1, .ref (ad 0 0)), (2, .ref (ad 15 0)), (3, .ref (ad 60 0)), (4, .int i)]) C.1 C.2.1 dL_law_946 hl (by decide) rfl (fun ls hl => ?_)
  refine lv_aload_n C.1 C.2.1 dL_law_948 rfl (kh_at hl 4 rfl) ?_
  obtain ⟨t, f3, hF⟩ := kh_bd_ok hF
  refine kh_calli (va_runV (As := []) (rest := []) ⟨C.1, C.2.1, C.2.2.1, C.2.2.2.1, C.2.2.2.2.1⟩ (c_X5_thrown l D ca A ad ρ2 f3) (cwV 0 C.2.2.2.2.1 gL_law_X5_thrown rfl rfl rfl (by decide +kernel) ⟨Nat.le_of_ble_eq_true rfl, Nat.le_of_ble_eq_true rfl⟩) (kh_preV C hw hS 15 (kh_z15 ρ2) kh_kd15 rfl) rfl rfl hl.1.1 rfl (lv_room (kh_sum kh_an (Nat.le_of_ble_eq_true rfl))) dL_law_949 ⟨by show cells + 5 + 0 ≤ 601024; omega, by show slots + 45 + 0 ≤ 7293034; omega⟩) hS (kh_mp f3) (fun H locs hw hS => ?_)
  obtain ⟨g1, hF⟩ := kh_gd_ok hF
  obtain rfl := Option.some.inj hF
  simp only [Bool.and_eq_true, Bool.or_eq_true, Bool.not_eq_true', decide_eq_true_eq, decide_eq_false_iff_not] at g1
  obtain ⟨g1, g2⟩ := g1
  refine lv_iload C.1 C.2.1 dL_law_952 (kh_at hl 1 rfl) ?_
  refine lv_icmp_eq (tgt := 959) C.1 C.2.1 dL_law_954 (by decide) (fun _ => ?_) (fun c9 => absurd g1 c9)
  refine lv_iload C.1 C.2.1 dL_law_959 (kh_at hl 1 rfl) ?_
  refine lv_if_ne (tgt := 976) C.1 C.2.1 dL_law_961 (by decide) (fun c9 => ?_) (fun c9 => ?_)
  · refine lv_goto (tgt := 1492) C.1 C.2.1 dL_law_976 (by decide) ?_
    exact kk _ _ _ _ (kh_agr _ _) hw hS (kh_sub hl [2, 3, 4, 5, 6] rfl)
  have g3 := g2.resolve_left (fun z => z c9)
  refine lv_aload_n C.1 C.2.1 dL_law_964 rfl (kh_at hl 5 rfl) ?_
  refine lv_iconst (v := (0 : Int32)) C.1 C.2.1 dL_law_965 (by decide) ?_
  refine kh_lald C hw 60 rfl (kh_z60 ρ2) kh_kd60 (by decide) dL_law_966 ?_
  rw [g3]
  refine lv_iload C.1 C.2.1 dL_law_967 (kh_at hl 0 rfl) ?_
  refine lv_i2l (v := u.toInt64) C.1 C.2.1 dL_law_969 rfl ?_
  refine W.lcmp C.1 C.2.1 dL_law_970 ?_
  rw [kh_cmp0]
  refine lv_if_eq (tgt := 976) C.1 C.2.1 dL_law_971 (by decide) (fun _ => ?_) (fun c9 => absurd rfl c9)
  refine lv_goto (tgt := 1492) C.1 C.2.1 dL_law_976 (by decide) ?_
  exact kk _ _ _ _ (kh_agr _ _) hw hS (kh_sub hl [2, 3, 4, 5, 6] rfl)

noncomputable def s_book (ρ : kh_S) (a1 : Int32) (a2 : Int32) : Option kh_S := kh_bd2 (f_L_book ρ a1 a2) (fun k ρ1 => kh_bd2 (f_X5_book ρ1 a1 a2) (fun b ρ2 => kh_bd (f_X5_thrown ρ2) (fun t => kh_gd (decide (t = k) && (!decide (k = 0) || decide (ρ2 60 0 0 (0 : Int32).toNatClampNeg = b))) (some ρ2))))
set_option maxHeartbeats 4000000 in
set_option maxRecDepth 100000 in
theorem w_book (C0 : kh_At p l s m b c D ca A L xs) (hw : kh_w D ca A ad ρ H) (hS : va_S A s.heap H locs) (hl : kh_lv ls 7 (kh_ll b ad i)) (hc : cells + 5 ≤ 601024) (hs : slots + 45 ≤ 7293034) (h1 : kh_in (i + 1) L = true) (e1 : xs (i + 1).toNatClampNeg = a1) (h2 : kh_in (i + 2) L = true) (e2 : xs (i + 2).toNatClampNeg = a2) (hF : s_book ρ a1 a2 = some ρ') (kk : kh_kk p l e s m b below meth c cells slots Q D ca A ad ρ ρ' i) : W p l e room_1 s m #[.ref b] below meth c H locs cells slots Q (F0 m 979 ls []) := by
  obtain ⟨C, hlt, hT, hN, hX, hbl, hbA⟩ := C0
  unfold s_book at hF
  have hl : kh_lv ls 7 [(0, .ref b), (1, .ref (ad 0 0)), (2, .ref (ad 15 0)), (3, .ref (ad 60 0)), (4, .int i)] := hl
  refine lv_aload_n C.1 C.2.1 dL_law_979 rfl (kh_at hl 1 rfl) ?_
  refine lv_aload_n C.1 C.2.1 dL_law_980 rfl (kh_at hl 0 rfl) ?_
  refine lv_iload C.1 C.2.1 dL_law_981 (kh_at hl 4 rfl) ?_
  refine lv_iconst (v := (1 : Int32)) C.1 C.2.1 dL_law_983 (by decide) ?_
  refine lv_iadd C.1 C.2.1 dL_law_984 ?_
  refine va_sld C.1 C.2.1 hX hbl hbA hS (kh_in_vp h1) dL_law_985 ?_
  rw [e1]
  refine lv_aload_n C.1 C.2.1 dL_law_986 rfl (kh_at hl 0 rfl) ?_
  refine lv_iload C.1 C.2.1 dL_law_987 (kh_at hl 4 rfl) ?_
  refine lv_iconst (v := (2 : Int32)) C.1 C.2.1 dL_law_989 (by decide) ?_
  refine lv_iadd C.1 C.2.1 dL_law_990 ?_
  refine va_sld C.1 C.2.1 hX hbl hbA hS (kh_in_vp h2) dL_law_991 ?_
  rw [e2]
  refine lv_aload_n C.1 C.2.1 dL_law_992 rfl (kh_at hl 3 rfl) ?_
  obtain ⟨k, ρ1, f1, hF⟩ := kh_bd2_ok hF
  refine kh_callN (vx_runSW (As := [.ref (ad 0 0), .int a1, .int a2, .ref (ad 60 0)]) (rest := []) ⟨C.1, C.2.1, C.2.2.1, C.2.2.2.1, C.2.2.2.2.1⟩ (c_L_book l hlt D ca A ad ρ a1 a2 f1) (vx_cwSW 4 C.2.2.2.2.1 gL_law_L_book rfl rfl rfl (by decide +kernel) ⟨Nat.le_of_ble_eq_true rfl, Nat.le_of_ble_eq_true rfl⟩) ⟨kh_blindN, fun U hU hW => ⟨rfl, (kh_preJ C hT hw hS (as := [.ref (ad 0 0), .int a1, .int a2, .ref (ad 60 0)]) U hU hW).2, hN.moved hW.alike⟩⟩ rfl rfl hl.1.1 rfl (lv_room (kh_sum kh_an (Nat.le_of_ble_eq_true rfl))) dL_law_993 ⟨by show cells + 2 ≤ 601024; omega, by show slots + 12 ≤ 7293034; omega⟩) hS f1 (fun ad2 H locs hag hw hS => ?_)
  have hl : kh_lv ls 7 [(0, .ref b), (1, .ref (ad2 0 0)), (2, .ref (ad2 15 0)), (3, .ref (ad2 60 0)), (4, .int i)] := by
    rw [hag 0 0 (kh_z0 ρ), hag 15 0 (kh_z15 ρ), hag 60 0 (kh_z60 ρ)]
    exact hl
  refine W.widen (k := cells + 5) (n := slots + 45) (Nat.add_le_add_left (Nat.le_of_ble_eq_true rfl) _) (Nat.add_le_add_left (Nat.le_of_ble_eq_true rfl) _) ?_
  refine kh_istore (lv' := [(5, .int k), (0, .ref b), (1, .ref (ad2 0 0)), (2, .ref (ad2 15 0)), (3, .ref (ad2 60 0)), (4, .int i)]) C.1 C.2.1 dL_law_996 hl (by decide) rfl (fun ls hl => ?_)
  refine lv_aload_n C.1 C.2.1 dL_law_998 rfl (kh_at hl 3 rfl) ?_
  refine lv_aload_n C.1 C.2.1 dL_law_999 rfl (kh_at hl 1 rfl) ?_
  refine lv_iload C.1 C.2.1 dL_law_1000 (kh_at hl 5 rfl) ?_
  refine lv_iconst (v := (1 : Int32)) C.1 C.2.1 dL_law_1002 (by decide) ?_
  refine lv_iadd C.1 C.2.1 dL_law_1003 ?_
  refine va_sld C.1 C.2.1 hX hbl hbA hS (kh_in_vp h1) dL_law_1004 ?_
  rw [e1]
  refine lv_aload_n C.1 C.2.1 dL_law_1005 rfl (kh_at hl 1 rfl) ?_
  refine lv_iload C.1 C.2.1 dL_law_1006 (kh_at hl 5 rfl) ?_
  refine lv_iconst (v := (2 : Int32)) C.1 C.2.1 dL_law_1008 (by decide) ?_
  refine lv_iadd C.1 C.2.1 dL_law_1009 ?_
  refine va_sld C.1 C.2.1 hX hbl hbA hS (kh_in_vp h2) dL_law_1010 ?_
  rw [e2]
  obtain ⟨u, ρ2, f2, hF⟩ := kh_bd2_ok hF
  refine kh_calli (va_runV (As := [.int a1, .int a2]) (rest := []) ⟨C.1, C.2.1, C.2.2.1, C.2.2.2.1, C.2.2.2.2.1⟩ (c_X5_book l D ca A ad2 ρ1 a1 a2 f2) (cwV 2 C.2.2.2.2.1 gL_law_X5_book rfl rfl rfl (by decide +kernel) ⟨Nat.le_of_ble_eq_true rfl, Nat.le_of_ble_eq_true rfl⟩) (kh_preV C hw hS 15 (kh_z15 ρ1) kh_kd15 rfl) rfl rfl hl.1.1 rfl (lv_room (kh_sum kh_an (Nat.le_of_ble_eq_true rfl))) dL_law_1011 ⟨by show cells + 5 + 0 ≤ 601024; omega, by show slots + 45 + 0 ≤ 7293034; omega⟩) hS f2 (fun H locs hw hS => ?_)
  refine kh_istore (lv' := [(6, .int u), (5, .int k), (0, .ref b), (1, .ref (ad2 0 0)), (2, .ref (ad2 15 0)), (3, .ref (ad2 60 0)), (4, .int i)]) C.1 C.2.1 dL_law_1014 hl (by decide) rfl (fun ls hl => ?_)
  refine lv_aload_n C.1 C.2.1 dL_law_1016 rfl (kh_at hl 4 rfl) ?_
  obtain ⟨t, f3, hF⟩ := kh_bd_ok hF
  refine kh_calli (va_runV (As := []) (rest := []) ⟨C.1, C.2.1, C.2.2.1, C.2.2.2.1, C.2.2.2.2.1⟩ (c_X5_thrown l D ca A ad2 ρ2 f3) (cwV 0 C.2.2.2.2.1 gL_law_X5_thrown rfl rfl rfl (by decide +kernel) ⟨Nat.le_of_ble_eq_true rfl, Nat.le_of_ble_eq_true rfl⟩) (kh_preV C hw hS 15 (kh_z15 ρ2) kh_kd15 rfl) rfl rfl hl.1.1 rfl (lv_room (kh_sum kh_an (Nat.le_of_ble_eq_true rfl))) dL_law_1017 ⟨by show cells + 5 + 0 ≤ 601024; omega, by show slots + 45 + 0 ≤ 7293034; omega⟩) hS (kh_mp f3) (fun H locs hw hS => ?_)
  obtain ⟨g1, hF⟩ := kh_gd_ok hF
  obtain rfl := Option.some.inj hF
  simp only [Bool.and_eq_true, Bool.or_eq_true, Bool.not_eq_true', decide_eq_true_eq, decide_eq_false_iff_not] at g1
  obtain ⟨g1, g2⟩ := g1
  refine lv_iload C.1 C.2.1 dL_law_1020 (kh_at hl 1 rfl) ?_
  refine lv_icmp_eq (tgt := 1027) C.1 C.2.1 dL_law_1022 (by decide) (fun _ => ?_) (fun c9 => absurd g1 c9)
  refine lv_iload C.1 C.2.1 dL_law_1027 (kh_at hl 1 rfl) ?_
  refine lv_if_ne (tgt := 1044) C.1 C.2.1 dL_law_1029 (by decide) (fun c9 => ?_) (fun c9 => ?_)
  · refine lv_goto (tgt := 1492) C.1 C.2.1 dL_law_1044 (by decide) ?_
    exact kk _ _ _ _ hag hw hS (kh_sub hl [2, 3, 4, 5, 6] rfl)
  have g3 := g2.resolve_left (fun z => z c9)
  refine lv_aload_n C.1 C.2.1 dL_law_1032 rfl (kh_at hl 5 rfl) ?_
  refine lv_iconst (v := (0 : Int32)) C.1 C.2.1 dL_law_1033 (by decide) ?_
  refine kh_lald C hw 60 rfl (kh_z60 ρ2) kh_kd60 (by decide) dL_law_1034 ?_
  rw [g3]
  refine lv_iload C.1 C.2.1 dL_law_1035 (kh_at hl 0 rfl) ?_
  refine lv_i2l (v := u.toInt64) C.1 C.2.1 dL_law_1037 rfl ?_
  refine W.lcmp C.1 C.2.1 dL_law_1038 ?_
  rw [kh_cmp0]
  refine lv_if_eq (tgt := 1044) C.1 C.2.1 dL_law_1039 (by decide) (fun _ => ?_) (fun c9 => absurd rfl c9)
  refine lv_goto (tgt := 1492) C.1 C.2.1 dL_law_1044 (by decide) ?_
  exact kk _ _ _ _ hag hw hS (kh_sub hl [2, 3, 4, 5, 6] rfl)

def s_cancel (ρ : kh_S) (a1 : Int32) : Option kh_S := kh_bd2 (f_L_cancel ρ a1) (fun k ρ1 => kh_bd (f_X5_cancel ρ1 a1) (fun ρ2 => kh_bd (f_X5_thrown ρ2) (fun t => kh_gd (decide (t = k)) (some ρ2))))
set_option maxHeartbeats 4000000 in
set_option maxRecDepth 100000 in
theorem w_cancel (C0 : kh_At p l s m b c D ca A L xs) (hw : kh_w D ca A ad ρ H) (hS : va_S A s.heap H locs) (hl : kh_lv ls 7 (kh_ll b ad i)) (hc : cells + 5 ≤ 601024) (hs : slots + 45 ≤ 7293034) (h1 : kh_in (i + 1) L = true) (e1 : xs (i + 1).toNatClampNeg = a1) (hF : s_cancel ρ a1 = some ρ') (kk : kh_kk p l e s m b below meth c cells slots Q D ca A ad ρ ρ' i) : W p l e room_1 s m #[.ref b] below meth c H locs cells slots Q (F0 m 1047 ls []) := by
  obtain ⟨C, hlt, hT, hN, hX, hbl, hbA⟩ := C0
  unfold s_cancel at hF
  have hl : kh_lv ls 7 [(0, .ref b), (1, .ref (ad 0 0)), (2, .ref (ad 15 0)), (3, .ref (ad 60 0)), (4, .int i)] := hl
  refine lv_aload_n C.1 C.2.1 dL_law_1047 rfl (kh_at hl 1 rfl) ?_
  refine lv_aload_n C.1 C.2.1 dL_law_1048 rfl (kh_at hl 0 rfl) ?_
  refine lv_iload C.1 C.2.1 dL_law_1049 (kh_at hl 4 rfl) ?_
  refine lv_iconst (v := (1 : Int32)) C.1 C.2.1 dL_law_1051 (by decide) ?_
  refine lv_iadd C.1 C.2.1 dL_law_1052 ?_
  refine va_sld C.1 C.2.1 hX hbl hbA hS (kh_in_vp h1) dL_law_1053 ?_
  rw [e1]
  obtain ⟨k, ρ1, f1, hF⟩ := kh_bd2_ok hF
  refine kh_calliM (vx_runSW (As := [.ref (ad 0 0), .int a1]) (rest := []) ⟨C.1, C.2.1, C.2.2.1, C.2.2.2.1, C.2.2.2.2.1⟩ (c_L_cancel l hlt D ca A ad ρ a1 f1) (vx_cwSW 2 C.2.2.2.2.1 gL_law_L_cancel rfl rfl rfl (by decide +kernel) ⟨Nat.le_of_ble_eq_true rfl, Nat.le_of_ble_eq_true rfl⟩) ⟨kh_blindN, fun U hU hW => ⟨rfl, (kh_preJ C hT hw hS (as := [.ref (ad 0 0), .int a1]) U hU hW).2, hN.moved hW.alike⟩⟩ rfl rfl hl.1.1 rfl (lv_room (kh_sum kh_an (Nat.le_of_ble_eq_true rfl))) dL_law_1054 ⟨by show cells + 2 ≤ 601024; omega, by show slots + 12 ≤ 7293034; omega⟩) hS f1 (fun H locs hw hS => ?_)
  refine W.widen (k := cells + 5) (n := slots + 45) (Nat.add_le_add_left (Nat.le_of_ble_eq_true rfl) _) (Nat.add_le_add_left (Nat.le_of_ble_eq_true rfl) _) ?_
  refine kh_istore (lv' := [(5, .int k), (0, .ref b), (1, .ref (ad 0 0)), (2, .ref (ad 15 0)), (3, .ref (ad 60 0)), (4, .int i)]) C.1 C.2.1 dL_law_1057 hl (by decide) rfl (fun ls hl => ?_)
  refine lv_aload_n C.1 C.2.1 dL_law_1059 rfl (kh_at hl 3 rfl) ?_
  refine lv_aload_n C.1 C.2.1 dL_law_1060 rfl (kh_at hl 1 rfl) ?_
  refine lv_iload C.1 C.2.1 dL_law_1061 (kh_at hl 5 rfl) ?_
  refine lv_iconst (v := (1 : Int32)) C.1 C.2.1 dL_law_1063 (by decide) ?_
  refine lv_iadd C.1 C.2.1 dL_law_1064 ?_
  refine va_sld C.1 C.2.1 hX hbl hbA hS (kh_in_vp h1) dL_law_1065 ?_
  rw [e1]
  obtain ⟨ρ2, f2, hF⟩ := kh_bd_ok hF
  refine kh_callv (va_runV (As := [.int a1]) (rest := []) ⟨C.1, C.2.1, C.2.2.1, C.2.2.2.1, C.2.2.2.2.1⟩ (c_X5_cancel l D ca A ad ρ1 a1 f2) (cwV 1 C.2.2.2.2.1 gL_law_X5_cancel rfl rfl rfl (by decide +kernel) ⟨Nat.le_of_ble_eq_true rfl, Nat.le_of_ble_eq_true rfl⟩) (kh_preV C hw hS 15 (kh_z15 ρ1) kh_kd15 rfl) rfl rfl hl.1.1 rfl (lv_room (kh_sum kh_an (Nat.le_of_ble_eq_true rfl))) dL_law_1066 ⟨by show cells + 5 + 0 ≤ 601024; omega, by show slots + 45 + 0 ≤ 7293034; omega⟩) hS f2 (fun H locs hw hS => ?_)
  refine lv_aload_n C.1 C.2.1 dL_law_1069 rfl (kh_at hl 3 rfl) ?_
  obtain ⟨t, f3, hF⟩ := kh_bd_ok hF
  refine kh_calli (va_runV (As := []) (rest := []) ⟨C.1, C.2.1, C.2.2.1, C.2.2.2.1, C.2.2.2.2.1⟩ (c_X5_thrown l D ca A ad ρ2 f3) (cwV 0 C.2.2.2.2.1 gL_law_X5_thrown rfl rfl rfl (by decide +kernel) ⟨Nat.le_of_ble_eq_true rfl, Nat.le_of_ble_eq_true rfl⟩) (kh_preV C hw hS 15 (kh_z15 ρ2) kh_kd15 rfl) rfl rfl hl.1.1 rfl (lv_room (kh_sum kh_an (Nat.le_of_ble_eq_true rfl))) dL_law_1070 ⟨by show cells + 5 + 0 ≤ 601024; omega, by show slots + 45 + 0 ≤ 7293034; omega⟩) hS (kh_mp f3) (fun H locs hw hS => ?_)
  obtain ⟨g1, hF⟩ := kh_gd_ok hF
  obtain rfl := Option.some.inj hF
  simp only [decide_eq_true_eq] at g1
  refine lv_iload C.1 C.2.1 dL_law_1073 (kh_at hl 0 rfl) ?_
  refine lv_icmp_eq (tgt := 1080) C.1 C.2.1 dL_law_1075 (by decide) (fun _ => ?_) (fun c9 => absurd g1 c9)
  refine lv_goto (tgt := 1492) C.1 C.2.1 dL_law_1080 (by decide) ?_
  exact kk _ _ _ _ (kh_agr _ _) hw hS (kh_sub hl [1, 2, 3, 4, 5] rfl)

def s_offer (ρ : kh_S) (a1 : Int32) (a2 : Int32) : Option kh_S := kh_bd2 (f_L_offer ρ a1 a2) (fun k ρ1 => kh_bd2 (f_X5_offer ρ1 a1 a2) (fun b ρ2 => kh_bd (f_X5_thrown ρ2) (fun t => kh_gd (decide (t = k) && (!decide (k = 0) || decide (ρ2 60 0 0 (0 : Int32).toNatClampNeg = b))) (some ρ2))))
set_option maxHeartbeats 4000000 in
set_option maxRecDepth 100000 in
theorem w_offer (C0 : kh_At p l s m b c D ca A L xs) (hw : kh_w D ca A ad ρ H) (hS : va_S A s.heap H locs) (hl : kh_lv ls 7 (kh_ll b ad i)) (hc : cells + 5 ≤ 601024) (hs : slots + 45 ≤ 7293034) (h1 : kh_in (i + 1) L = true) (e1 : xs (i + 1).toNatClampNeg = a1) (h2 : kh_in (i + 2) L = true) (e2 : xs (i + 2).toNatClampNeg = a2) (hF : s_offer ρ a1 a2 = some ρ') (kk : kh_kk p l e s m b below meth c cells slots Q D ca A ad ρ ρ' i) : W p l e room_1 s m #[.ref b] below meth c H locs cells slots Q (F0 m 1083 ls []) := by
  obtain ⟨C, hlt, hT, hN, hX, hbl, hbA⟩ := C0
  unfold s_offer at hF
  have hl : kh_lv ls 7 [(0, .ref b), (1, .ref (ad 0 0)), (2, .ref (ad 15 0)), (3, .ref (ad 60 0)), (4, .int i)] := hl
  refine lv_aload_n C.1 C.2.1 dL_law_1083 rfl (kh_at hl 1 rfl) ?_
  refine lv_aload_n C.1 C.2.1 dL_law_1084 rfl (kh_at hl 0 rfl) ?_
  refine lv_iload C.1 C.2.1 dL_law_1085 (kh_at hl 4 rfl) ?_
  refine lv_iconst (v := (1 : Int32)) C.1 C.2.1 dL_law_1087 (by decide) ?_
  refine lv_iadd C.1 C.2.1 dL_law_1088 ?_
  refine va_sld C.1 C.2.1 hX hbl hbA hS (kh_in_vp h1) dL_law_1089 ?_
  rw [e1]
  refine lv_aload_n C.1 C.2.1 dL_law_1090 rfl (kh_at hl 0 rfl) ?_
  refine lv_iload C.1 C.2.1 dL_law_1091 (kh_at hl 4 rfl) ?_
  refine lv_iconst (v := (2 : Int32)) C.1 C.2.1 dL_law_1093 (by decide) ?_
  refine lv_iadd C.1 C.2.1 dL_law_1094 ?_
  refine va_sld C.1 C.2.1 hX hbl hbA hS (kh_in_vp h2) dL_law_1095 ?_
  rw [e2]
  refine lv_aload_n C.1 C.2.1 dL_law_1096 rfl (kh_at hl 3 rfl) ?_
  obtain ⟨k, ρ1, f1, hF⟩ := kh_bd2_ok hF
  refine kh_calliM (vx_runSW (As := [.ref (ad 0 0), .int a1, .int a2, .ref (ad 60 0)]) (rest := []) ⟨C.1, C.2.1, C.2.2.1, C.2.2.2.1, C.2.2.2.2.1⟩ (c_L_offer l hlt D ca A ad ρ a1 a2 f1) (vx_cwSW 4 C.2.2.2.2.1 gL_law_L_offer rfl rfl rfl (by decide +kernel) ⟨Nat.le_of_ble_eq_true rfl, Nat.le_of_ble_eq_true rfl⟩) ⟨kh_blindN, fun U hU hW => ⟨rfl, (kh_preJ C hT hw hS (as := [.ref (ad 0 0), .int a1, .int a2, .ref (ad 60 0)]) U hU hW).2, hN.moved hW.alike⟩⟩ rfl rfl hl.1.1 rfl (lv_room (kh_sum kh_an (Nat.le_of_ble_eq_true rfl))) dL_law_1097 ⟨by show cells + 2 ≤ 601024; omega, by show slots + 12 ≤ 7293034; omega⟩) hS f1 (fun H locs hw hS => ?_)
  refine W.widen (k := cells + 5) (n := slots + 45) (Nat.add_le_add_left (Nat.le_of_ble_eq_true rfl) _) (Nat.add_le_add_left (Nat.le_of_ble_eq_true rfl) _) ?_
  refine kh_istore (lv' := [(5, .int k), (0, .ref b), (1, .ref (ad 0 0)), (2, .ref (ad 15 0)), (3, .ref (ad 60 0)), (4, .int i)]) C.1 C.2.1 dL_law_1100 hl (by decide) rfl (fun ls hl => ?_)
  refine lv_aload_n C.1 C.2.1 dL_law_1102 rfl (kh_at hl 3 rfl) ?_
  refine lv_aload_n C.1 C.2.1 dL_law_1103 rfl (kh_at hl 1 rfl) ?_
  refine lv_iload C.1 C.2.1 dL_law_1104 (kh_at hl 5 rfl) ?_
  refine lv_iconst (v := (1 : Int32)) C.1 C.2.1 dL_law_1106 (by decide) ?_
  refine lv_iadd C.1 C.2.1 dL_law_1107 ?_
  refine va_sld C.1 C.2.1 hX hbl hbA hS (kh_in_vp h1) dL_law_1108 ?_
  rw [e1]
  refine lv_aload_n C.1 C.2.1 dL_law_1109 rfl (kh_at hl 1 rfl) ?_
  refine lv_iload C.1 C.2.1 dL_law_1110 (kh_at hl 5 rfl) ?_
  refine lv_iconst (v := (2 : Int32)) C.1 C.2.1 dL_law_1112 (by decide) ?_
  refine lv_iadd C.1 C.2.1 dL_law_1113 ?_
  refine va_sld C.1 C.2.1 hX hbl hbA hS (kh_in_vp h2) dL_law_1114 ?_
  rw [e2]
  obtain ⟨u, ρ2, f2, hF⟩ := kh_bd2_ok hF
  refine kh_calli (va_runV (As := [.int a1, .int a2]) (rest := []) ⟨C.1, C.2.1, C.2.2.1, C.2.2.2.1, C.2.2.2.2.1⟩ (c_X5_offer l D ca A ad ρ1 a1 a2 f2) (cwV 2 C.2.2.2.2.1 gL_law_X5_offer rfl rfl rfl (by decide +kernel) ⟨Nat.le_of_ble_eq_true rfl, Nat.le_of_ble_eq_true rfl⟩) (kh_preV C hw hS 15 (kh_z15 ρ1) kh_kd15 rfl) rfl rfl hl.1.1 rfl (lv_room (kh_sum kh_an (Nat.le_of_ble_eq_true rfl))) dL_law_1115 ⟨by show cells + 5 + 0 ≤ 601024; omega, by show slots + 45 + 0 ≤ 7293034; omega⟩) hS f2 (fun H locs hw hS => ?_)
  refine kh_istore (lv' := [(6, .int u), (5, .int k), (0, .ref b), (1, .ref (ad 0 0)), (2, .ref (ad 15 0)), (3, .ref (ad 60 0)), (4, .int i)]) C.1 C.2.1 dL_law_1118 hl (by decide) rfl (fun ls hl => ?_)
  refine lv_aload_n C.1 C.2.1 dL_law_1120 rfl (kh_at hl 4 rfl) ?_
  obtain ⟨t, f3, hF⟩ := kh_bd_ok hF
  refine kh_calli (va_runV (As := []) (rest := []) ⟨C.1, C.2.1, C.2.2.1, C.2.2.2.1, C.2.2.2.2.1⟩ (c_X5_thrown l D ca A ad ρ2 f3) (cwV 0 C.2.2.2.2.1 gL_law_X5_thrown rfl rfl rfl (by decide +kernel) ⟨Nat.le_of_ble_eq_true rfl, Nat.le_of_ble_eq_true rfl⟩) (kh_preV C hw hS 15 (kh_z15 ρ2) kh_kd15 rfl) rfl rfl hl.1.1 rfl (lv_room (kh_sum kh_an (Nat.le_of_ble_eq_true rfl))) dL_law_1121 ⟨by show cells + 5 + 0 ≤ 601024; omega, by show slots + 45 + 0 ≤ 7293034; omega⟩) hS (kh_mp f3) (fun H locs hw hS => ?_)
  obtain ⟨g1, hF⟩ := kh_gd_ok hF
  obtain rfl := Option.some.inj hF
  simp only [Bool.and_eq_true, Bool.or_eq_true, Bool.not_eq_true', decide_eq_true_eq, decide_eq_false_iff_not] at g1
  obtain ⟨g1, g2⟩ := g1
  refine lv_iload C.1 C.2.1 dL_law_1124 (kh_at hl 1 rfl) ?_
  refine lv_icmp_eq (tgt := 1131) C.1 C.2.1 dL_law_1126 (by decide) (fun _ => ?_) (fun c9 => absurd g1 c9)
  refine lv_iload C.1 C.2.1 dL_law_1131 (kh_at hl 1 rfl) ?_
  refine lv_if_ne (tgt := 1148) C.1 C.2.1 dL_law_1133 (by decide) (fun c9 => ?_) (fun c9 => ?_)
  · refine lv_goto (tgt := 1492) C.1 C.2.1 dL_law_1148 (by decide) ?_
    exact kk _ _ _ _ (kh_agr _ _) hw hS (kh_sub hl [2, 3, 4, 5, 6] rfl)
  have g3 := g2.resolve_left (fun z => z c9)
  refine lv_aload_n C.1 C.2.1 dL_law_1136 rfl (kh_at hl 5 rfl) ?_
  refine lv_iconst (v := (0 : Int32)) C.1 C.2.1 dL_law_1137 (by decide) ?_
  refine kh_lald C hw 60 rfl (kh_z60 ρ2) kh_kd60 (by decide) dL_law_1138 ?_
  rw [g3]
  refine lv_iload C.1 C.2.1 dL_law_1139 (kh_at hl 0 rfl) ?_
  refine lv_i2l (v := u.toInt64) C.1 C.2.1 dL_law_1141 rfl ?_
  refine W.lcmp C.1 C.2.1 dL_law_1142 ?_
  rw [kh_cmp0]
  refine lv_if_eq (tgt := 1148) C.1 C.2.1 dL_law_1143 (by decide) (fun _ => ?_) (fun c9 => absurd rfl c9)
  refine lv_goto (tgt := 1492) C.1 C.2.1 dL_law_1148 (by decide) ?_
  exact kk _ _ _ _ (kh_agr _ _) hw hS (kh_sub hl [2, 3, 4, 5, 6] rfl)

def s_pass (ρ : kh_S) (a1 : Int32) : Option kh_S := kh_bd2 (f_L_pass ρ a1) (fun k ρ1 => kh_bd2 (f_X5_pass ρ1 a1) (fun b ρ2 => kh_bd (f_X5_thrown ρ2) (fun t => kh_gd (decide (t = k) && (!decide (k = 0) || decide (ρ2 60 0 0 (0 : Int32).toNatClampNeg = b))) (some ρ2))))
set_option maxHeartbeats 4000000 in
set_option maxRecDepth 100000 in
theorem w_pass (C0 : kh_At p l s m b c D ca A L xs) (hw : kh_w D ca A ad ρ H) (hS : va_S A s.heap H locs) (hl : kh_lv ls 7 (kh_ll b ad i)) (hc : cells + 5 ≤ 601024) (hs : slots + 45 ≤ 7293034) (h1 : kh_in (i + 1) L = true) (e1 : xs (i + 1).toNatClampNeg = a1) (hF : s_pass ρ a1 = some ρ') (kk : kh_kk p l e s m b below meth c cells slots Q D ca A ad ρ ρ' i) : W p l e room_1 s m #[.ref b] below meth c H locs cells slots Q (F0 m 1151 ls []) := by
  obtain ⟨C, hlt, hT, hN, hX, hbl, hbA⟩ := C0
  unfold s_pass at hF
  have hl : kh_lv ls 7 [(0, .ref b), (1, .ref (ad 0 0)), (2, .ref (ad 15 0)), (3, .ref (ad 60 0)), (4, .int i)] := hl
  refine lv_aload_n C.1 C.2.1 dL_law_1151 rfl (kh_at hl 1 rfl) ?_
  refine lv_aload_n C.1 C.2.1 dL_law_1152 rfl (kh_at hl 0 rfl) ?_
  refine lv_iload C.1 C.2.1 dL_law_1153 (kh_at hl 4 rfl) ?_
  refine lv_iconst (v := (1 : Int32)) C.1 C.2.1 dL_law_1155 (by decide) ?_
  refine lv_iadd C.1 C.2.1 dL_law_1156 ?_
  refine va_sld C.1 C.2.1 hX hbl hbA hS (kh_in_vp h1) dL_law_1157 ?_
  rw [e1]
  refine lv_aload_n C.1 C.2.1 dL_law_1158 rfl (kh_at hl 3 rfl) ?_
  obtain ⟨k, ρ1, f1, hF⟩ := kh_bd2_ok hF
  refine kh_calliM (vx_runSW (As := [.ref (ad 0 0), .int a1, .ref (ad 60 0)]) (rest := []) ⟨C.1, C.2.1, C.2.2.1, C.2.2.2.1, C.2.2.2.2.1⟩ (c_L_pass l hlt D ca A ad ρ a1 f1) (vx_cwSW 3 C.2.2.2.2.1 gL_law_L_pass rfl rfl rfl (by decide +kernel) ⟨Nat.le_of_ble_eq_true rfl, Nat.le_of_ble_eq_true rfl⟩) ⟨kh_blindN, fun U hU hW => ⟨rfl, (kh_preJ C hT hw hS (as := [.ref (ad 0 0), .int a1, .ref (ad 60 0)]) U hU hW).2, hN.moved hW.alike⟩⟩ rfl rfl hl.1.1 rfl (lv_room (kh_sum kh_an (Nat.le_of_ble_eq_true rfl))) dL_law_1159 ⟨by show cells + 1 ≤ 601024; omega, by show slots + 6 ≤ 7293034; omega⟩) hS f1 (fun H locs hw hS => ?_)
  refine W.widen (k := cells + 5) (n := slots + 45) (Nat.add_le_add_left (Nat.le_of_ble_eq_true rfl) _) (Nat.add_le_add_left (Nat.le_of_ble_eq_true rfl) _) ?_
  refine kh_istore (lv' := [(5, .int k), (0, .ref b), (1, .ref (ad 0 0)), (2, .ref (ad 15 0)), (3, .ref (ad 60 0)), (4, .int i)]) C.1 C.2.1 dL_law_1162 hl (by decide) rfl (fun ls hl => ?_)
  refine lv_aload_n C.1 C.2.1 dL_law_1164 rfl (kh_at hl 3 rfl) ?_
  refine lv_aload_n C.1 C.2.1 dL_law_1165 rfl (kh_at hl 1 rfl) ?_
  refine lv_iload C.1 C.2.1 dL_law_1166 (kh_at hl 5 rfl) ?_
  refine lv_iconst (v := (1 : Int32)) C.1 C.2.1 dL_law_1168 (by decide) ?_
  refine lv_iadd C.1 C.2.1 dL_law_1169 ?_
  refine va_sld C.1 C.2.1 hX hbl hbA hS (kh_in_vp h1) dL_law_1170 ?_
  rw [e1]
  obtain ⟨u, ρ2, f2, hF⟩ := kh_bd2_ok hF
  refine kh_calli (va_runV (As := [.int a1]) (rest := []) ⟨C.1, C.2.1, C.2.2.1, C.2.2.2.1, C.2.2.2.2.1⟩ (c_X5_pass l D ca A ad ρ1 a1 f2) (cwV 1 C.2.2.2.2.1 gL_law_X5_pass rfl rfl rfl (by decide +kernel) ⟨Nat.le_of_ble_eq_true rfl, Nat.le_of_ble_eq_true rfl⟩) (kh_preV C hw hS 15 (kh_z15 ρ1) kh_kd15 rfl) rfl rfl hl.1.1 rfl (lv_room (kh_sum kh_an (Nat.le_of_ble_eq_true rfl))) dL_law_1171 ⟨by show cells + 5 + 0 ≤ 601024; omega, by show slots + 45 + 0 ≤ 7293034; omega⟩) hS f2 (fun H locs hw hS => ?_)
  refine kh_istore (lv' := [(6, .int u), (5, .int k), (0, .ref b), (1, .ref (ad 0 0)), (2, .ref (ad 15 0)), (3, .ref (ad 60 0)), (4, .int i)]) C.1 C.2.1 dL_law_1174 hl (by decide) rfl (fun ls hl => ?_)
  refine lv_aload_n C.1 C.2.1 dL_law_1176 rfl (kh_at hl 4 rfl) ?_
  obtain ⟨t, f3, hF⟩ := kh_bd_ok hF
  refine kh_calli (va_runV (As := []) (rest := []) ⟨C.1, C.2.1, C.2.2.1, C.2.2.2.1, C.2.2.2.2.1⟩ (c_X5_thrown l D ca A ad ρ2 f3) (cwV 0 C.2.2.2.2.1 gL_law_X5_thrown rfl rfl rfl (by decide +kernel) ⟨Nat.le_of_ble_eq_true rfl, Nat.le_of_ble_eq_true rfl⟩) (kh_preV C hw hS 15 (kh_z15 ρ2) kh_kd15 rfl) rfl rfl hl.1.1 rfl (lv_room (kh_sum kh_an (Nat.le_of_ble_eq_true rfl))) dL_law_1177 ⟨by show cells + 5 + 0 ≤ 601024; omega, by show slots + 45 + 0 ≤ 7293034; omega⟩) hS (kh_mp f3) (fun H locs hw hS => ?_)
  obtain ⟨g1, hF⟩ := kh_gd_ok hF
  obtain rfl := Option.some.inj hF
  simp only [Bool.and_eq_true, Bool.or_eq_true, Bool.not_eq_true', decide_eq_true_eq, decide_eq_false_iff_not] at g1
  obtain ⟨g1, g2⟩ := g1
  refine lv_iload C.1 C.2.1 dL_law_1180 (kh_at hl 1 rfl) ?_
  refine lv_icmp_eq (tgt := 1187) C.1 C.2.1 dL_law_1182 (by decide) (fun _ => ?_) (fun c9 => absurd g1 c9)
  refine lv_iload C.1 C.2.1 dL_law_1187 (kh_at hl 1 rfl) ?_
  refine lv_if_ne (tgt := 1204) C.1 C.2.1 dL_law_1189 (by decide) (fun c9 => ?_) (fun c9 => ?_)
  · refine lv_goto (tgt := 1492) C.1 C.2.1 dL_law_1204 (by decide) ?_
    exact kk _ _ _ _ (kh_agr _ _) hw hS (kh_sub hl [2, 3, 4, 5, 6] rfl)
  have g3 := g2.resolve_left (fun z => z c9)
  refine lv_aload_n C.1 C.2.1 dL_law_1192 rfl (kh_at hl 5 rfl) ?_
  refine lv_iconst (v := (0 : Int32)) C.1 C.2.1 dL_law_1193 (by decide) ?_
  refine kh_lald C hw 60 rfl (kh_z60 ρ2) kh_kd60 (by decide) dL_law_1194 ?_
  rw [g3]
  refine lv_iload C.1 C.2.1 dL_law_1195 (kh_at hl 0 rfl) ?_
  refine lv_i2l (v := u.toInt64) C.1 C.2.1 dL_law_1197 rfl ?_
  refine W.lcmp C.1 C.2.1 dL_law_1198 ?_
  rw [kh_cmp0]
  refine lv_if_eq (tgt := 1204) C.1 C.2.1 dL_law_1199 (by decide) (fun _ => ?_) (fun c9 => absurd rfl c9)
  refine lv_goto (tgt := 1492) C.1 C.2.1 dL_law_1204 (by decide) ?_
  exact kk _ _ _ _ (kh_agr _ _) hw hS (kh_sub hl [2, 3, 4, 5, 6] rfl)

def s_minute (ρ : kh_S) : Option kh_S := kh_bd (f_X4_minute ρ) (fun a => kh_bd2 (f_X5_minute ρ) (fun b ρ2 => kh_gd (decide (a = b)) (some ρ2)))
set_option maxHeartbeats 4000000 in
set_option maxRecDepth 100000 in
theorem w_minute (C0 : kh_At p l s m b c D ca A L xs) (hw : kh_w D ca A ad ρ H) (hS : va_S A s.heap H locs) (hl : kh_lv ls 7 (kh_ll b ad i)) (hc : cells + 5 ≤ 601024) (hs : slots + 45 ≤ 7293034) (hF : s_minute ρ  = some ρ') (kk : kh_kk p l e s m b below meth c cells slots Q D ca A ad ρ ρ' i) : W p l e room_1 s m #[.ref b] below meth c H locs cells slots Q (F0 m 1207 ls []) := by
  obtain ⟨C, hlt, hT, hN, hX, hbl, hbA⟩ := C0
  unfold s_minute at hF
  have hl : kh_lv ls 7 [(0, .ref b), (1, .ref (ad 0 0)), (2, .ref (ad 15 0)), (3, .ref (ad 60 0)), (4, .int i)] := hl
  refine lv_aload_n C.1 C.2.1 dL_law_1207 rfl (kh_at hl 1 rfl) ?_
  obtain ⟨t, f1, hF⟩ := kh_bd_ok hF
  refine kh_calli (va_runV (As := []) (rest := []) ⟨C.1, C.2.1, C.2.2.1, C.2.2.2.1, C.2.2.2.2.1⟩ (c_X4_minute l D ca A ad ρ f1) (cwV 0 C.2.2.2.2.1 gL_law_X4_minute rfl rfl rfl (by decide +kernel) ⟨Nat.le_of_ble_eq_true rfl, Nat.le_of_ble_eq_true rfl⟩) (kh_preV C hw hS 0 (kh_z0 ρ) kh_kd0 rfl) rfl rfl hl.1.1 rfl (lv_room (kh_sum kh_an (Nat.le_of_ble_eq_true rfl))) dL_law_1208 ⟨by show cells + 0 ≤ 601024; omega, by show slots + 0 ≤ 7293034; omega⟩) hS (kh_mp f1) (fun H locs hw hS => ?_)
  refine lv_aload_n C.1 C.2.1 dL_law_1211 rfl (kh_at hl 2 rfl) ?_
  obtain ⟨u, ρ2, f2, hF⟩ := kh_bd2_ok hF
  refine kh_calli (va_runV (As := []) (rest := [.int t]) ⟨C.1, C.2.1, C.2.2.1, C.2.2.2.1, C.2.2.2.2.1⟩ (c_X5_minute l D ca A ad ρ f2) (cwV 0 C.2.2.2.2.1 gL_law_X5_minute rfl rfl rfl (by decide +kernel) ⟨Nat.le_of_ble_eq_true rfl, Nat.le_of_ble_eq_true rfl⟩) (kh_preV C hw hS 15 (kh_z15 ρ) kh_kd15 rfl) rfl rfl hl.1.1 rfl (lv_room (kh_sum (kh_ac rfl kh_an) (Nat.le_of_ble_eq_true rfl))) dL_law_1212 ⟨by show cells + 0 ≤ 601024; omega, by show slots + 0 ≤ 7293034; omega⟩) hS f2 (fun H locs hw hS => ?_)
  obtain ⟨g1, hF⟩ := kh_gd_ok hF
  obtain rfl := Option.some.inj hF
  simp only [decide_eq_true_eq] at g1
  refine W.widen (k := cells + 5) (n := slots + 45) (Nat.le_add_right _ _) (Nat.le_add_right _ _) ?_
  refine lv_icmp_eq (tgt := 1492) C.1 C.2.1 dL_law_1215 (by decide) (fun _ => ?_) (fun c9 => absurd g1 c9)
  exact kk _ _ _ _ (kh_agr _ _) hw hS (kh_sub hl [0, 1, 2, 3, 4] rfl)

def s_state (ρ : kh_S) (a1 : Int32) (a2 : Int32) : Option kh_S := kh_bd2 (f_L_state ρ a1 a2) (fun k ρ1 => kh_bd2 (f_X5_state ρ1 a1 a2) (fun b ρ2 => kh_bd (f_X5_thrown ρ2) (fun t => kh_gd (decide (t = k) && (!decide (k = 0) || decide (ρ2 60 0 0 (0 : Int32).toNatClampNeg = b))) (some ρ2))))
set_option maxHeartbeats 4000000 in
set_option maxRecDepth 100000 in
theorem w_state (C0 : kh_At p l s m b c D ca A L xs) (hw : kh_w D ca A ad ρ H) (hS : va_S A s.heap H locs) (hl : kh_lv ls 7 (kh_ll b ad i)) (hc : cells + 5 ≤ 601024) (hs : slots + 45 ≤ 7293034) (h1 : kh_in (i + 1) L = true) (e1 : xs (i + 1).toNatClampNeg = a1) (h2 : kh_in (i + 2) L = true) (e2 : xs (i + 2).toNatClampNeg = a2) (hF : s_state ρ a1 a2 = some ρ') (kk : kh_kk p l e s m b below meth c cells slots Q D ca A ad ρ ρ' i) : W p l e room_1 s m #[.ref b] below meth c H locs cells slots Q (F0 m 1220 ls []) := by
  obtain ⟨C, hlt, hT, hN, hX, hbl, hbA⟩ := C0
  unfold s_state at hF
  have hl : kh_lv ls 7 [(0, .ref b), (1, .ref (ad 0 0)), (2, .ref (ad 15 0)), (3, .ref (ad 60 0)), (4, .int i)] := hl
  refine lv_aload_n C.1 C.2.1 dL_law_1220 rfl (kh_at hl 1 rfl) ?_
  refine lv_aload_n C.1 C.2.1 dL_law_1221 rfl (kh_at hl 0 rfl) ?_
  refine lv_iload C.1 C.2.1 dL_law_1222 (kh_at hl 4 rfl) ?_
  refine lv_iconst (v := (1 : Int32)) C.1 C.2.1 dL_law_1224 (by decide) ?_
  refine lv_iadd C.1 C.2.1 dL_law_1225 ?_
  refine va_sld C.1 C.2.1 hX hbl hbA hS (kh_in_vp h1) dL_law_1226 ?_
  rw [e1]
  refine lv_aload_n C.1 C.2.1 dL_law_1227 rfl (kh_at hl 0 rfl) ?_
  refine lv_iload C.1 C.2.1 dL_law_1228 (kh_at hl 4 rfl) ?_
  refine lv_iconst (v := (2 : Int32)) C.1 C.2.1 dL_law_1230 (by decide) ?_
  refine lv_iadd C.1 C.2.1 dL_law_1231 ?_
  refine va_sld C.1 C.2.1 hX hbl hbA hS (kh_in_vp h2) dL_law_1232 ?_
  rw [e2]
  refine lv_aload_n C.1 C.2.1 dL_law_1233 rfl (kh_at hl 3 rfl) ?_
  obtain ⟨k, ρ1, f1, hF⟩ := kh_bd2_ok hF
  refine kh_calliM (vx_runSW (As := [.ref (ad 0 0), .int a1, .int a2, .ref (ad 60 0)]) (rest := []) ⟨C.1, C.2.1, C.2.2.1, C.2.2.2.1, C.2.2.2.2.1⟩ (c_L_state l hlt D ca A ad ρ a1 a2 f1) (vx_cwSW 4 C.2.2.2.2.1 gL_law_L_state rfl rfl rfl (by decide +kernel) ⟨Nat.le_of_ble_eq_true rfl, Nat.le_of_ble_eq_true rfl⟩) ⟨kh_blindN, fun U hU hW => ⟨rfl, (kh_preJ C hT hw hS (as := [.ref (ad 0 0), .int a1, .int a2, .ref (ad 60 0)]) U hU hW).2, hN.moved hW.alike⟩⟩ rfl rfl hl.1.1 rfl (lv_room (kh_sum kh_an (Nat.le_of_ble_eq_true rfl))) dL_law_1234 ⟨by show cells + 2 ≤ 601024; omega, by show slots + 12 ≤ 7293034; omega⟩) hS f1 (fun H locs hw hS => ?_)
  refine W.widen (k := cells + 5) (n := slots + 45) (Nat.add_le_add_left (Nat.le_of_ble_eq_true rfl) _) (Nat.add_le_add_left (Nat.le_of_ble_eq_true rfl) _) ?_
  refine kh_istore (lv' := [(5, .int k), (0, .ref b), (1, .ref (ad 0 0)), (2, .ref (ad 15 0)), (3, .ref (ad 60 0)), (4, .int i)]) C.1 C.2.1 dL_law_1237 hl (by decide) rfl (fun ls hl => ?_)
  refine lv_aload_n C.1 C.2.1 dL_law_1239 rfl (kh_at hl 3 rfl) ?_
  refine lv_aload_n C.1 C.2.1 dL_law_1240 rfl (kh_at hl 1 rfl) ?_
  refine lv_iload C.1 C.2.1 dL_law_1241 (kh_at hl 5 rfl) ?_
  refine lv_iconst (v := (1 : Int32)) C.1 C.2.1 dL_law_1243 (by decide) ?_
  refine lv_iadd C.1 C.2.1 dL_law_1244 ?_
  refine va_sld C.1 C.2.1 hX hbl hbA hS (kh_in_vp h1) dL_law_1245 ?_
  rw [e1]
  refine lv_aload_n C.1 C.2.1 dL_law_1246 rfl (kh_at hl 1 rfl) ?_
  refine lv_iload C.1 C.2.1 dL_law_1247 (kh_at hl 5 rfl) ?_
  refine lv_iconst (v := (2 : Int32)) C.1 C.2.1 dL_law_1249 (by decide) ?_
  refine lv_iadd C.1 C.2.1 dL_law_1250 ?_
  refine va_sld C.1 C.2.1 hX hbl hbA hS (kh_in_vp h2) dL_law_1251 ?_
  rw [e2]
  obtain ⟨u, ρ2, f2, hF⟩ := kh_bd2_ok hF
  refine kh_calli (va_runV (As := [.int a1, .int a2]) (rest := []) ⟨C.1, C.2.1, C.2.2.1, C.2.2.2.1, C.2.2.2.2.1⟩ (c_X5_state l D ca A ad ρ1 a1 a2 f2) (cwV 2 C.2.2.2.2.1 gL_law_X5_state rfl rfl rfl (by decide +kernel) ⟨Nat.le_of_ble_eq_true rfl, Nat.le_of_ble_eq_true rfl⟩) (kh_preV C hw hS 15 (kh_z15 ρ1) kh_kd15 rfl) rfl rfl hl.1.1 rfl (lv_room (kh_sum kh_an (Nat.le_of_ble_eq_true rfl))) dL_law_1252 ⟨by show cells + 5 + 0 ≤ 601024; omega, by show slots + 45 + 0 ≤ 7293034; omega⟩) hS f2 (fun H locs hw hS => ?_)
  refine kh_istore (lv' := [(6, .int u), (5, .int k), (0, .ref b), (1, .ref (ad 0 0)), (2, .ref (ad 15 0)), (3, .ref (ad 60 0)), (4, .int i)]) C.1 C.2.1 dL_law_1255 hl (by decide) rfl (fun ls hl => ?_)
  refine lv_aload_n C.1 C.2.1 dL_law_1257 rfl (kh_at hl 4 rfl) ?_
  obtain ⟨t, f3, hF⟩ := kh_bd_ok hF
  refine kh_calli (va_runV (As := []) (rest := []) ⟨C.1, C.2.1, C.2.2.1, C.2.2.2.1, C.2.2.2.2.1⟩ (c_X5_thrown l D ca A ad ρ2 f3) (cwV 0 C.2.2.2.2.1 gL_law_X5_thrown rfl rfl rfl (by decide +kernel) ⟨Nat.le_of_ble_eq_true rfl, Nat.le_of_ble_eq_true rfl⟩) (kh_preV C hw hS 15 (kh_z15 ρ2) kh_kd15 rfl) rfl rfl hl.1.1 rfl (lv_room (kh_sum kh_an (Nat.le_of_ble_eq_true rfl))) dL_law_1258 ⟨by show cells + 5 + 0 ≤ 601024; omega, by show slots + 45 + 0 ≤ 7293034; omega⟩) hS (kh_mp f3) (fun H locs hw hS => ?_)
  obtain ⟨g1, hF⟩ := kh_gd_ok hF
  obtain rfl := Option.some.inj hF
  simp only [Bool.and_eq_true, Bool.or_eq_true, Bool.not_eq_true', decide_eq_true_eq, decide_eq_false_iff_not] at g1
  obtain ⟨g1, g2⟩ := g1
  refine lv_iload C.1 C.2.1 dL_law_1261 (kh_at hl 1 rfl) ?_
  refine lv_icmp_eq (tgt := 1268) C.1 C.2.1 dL_law_1263 (by decide) (fun _ => ?_) (fun c9 => absurd g1 c9)
  refine lv_iload C.1 C.2.1 dL_law_1268 (kh_at hl 1 rfl) ?_
  refine lv_if_ne (tgt := 1285) C.1 C.2.1 dL_law_1270 (by decide) (fun c9 => ?_) (fun c9 => ?_)
  · refine lv_goto (tgt := 1492) C.1 C.2.1 dL_law_1285 (by decide) ?_
    exact kk _ _ _ _ (kh_agr _ _) hw hS (kh_sub hl [2, 3, 4, 5, 6] rfl)
  have g3 := g2.resolve_left (fun z => z c9)
  refine lv_aload_n C.1 C.2.1 dL_law_1273 rfl (kh_at hl 5 rfl) ?_
  refine lv_iconst (v := (0 : Int32)) C.1 C.2.1 dL_law_1274 (by decide) ?_
  refine kh_lald C hw 60 rfl (kh_z60 ρ2) kh_kd60 (by decide) dL_law_1275 ?_
  rw [g3]
  refine lv_iload C.1 C.2.1 dL_law_1276 (kh_at hl 0 rfl) ?_
  refine lv_i2l (v := u.toInt64) C.1 C.2.1 dL_law_1278 rfl ?_
  refine W.lcmp C.1 C.2.1 dL_law_1279 ?_
  rw [kh_cmp0]
  refine lv_if_eq (tgt := 1285) C.1 C.2.1 dL_law_1280 (by decide) (fun _ => ?_) (fun c9 => absurd rfl c9)
  refine lv_goto (tgt := 1492) C.1 C.2.1 dL_law_1285 (by decide) ?_
  exact kk _ _ _ _ (kh_agr _ _) hw hS (kh_sub hl [2, 3, 4, 5, 6] rfl)

def s_group (ρ : kh_S) (a1 : Int32) (a2 : Int32) : Option kh_S := kh_bd2 (f_L_group ρ a1 a2) (fun k ρ1 => kh_bd2 (f_X5_group ρ1 a1 a2) (fun b ρ2 => kh_bd (f_X5_thrown ρ2) (fun t => kh_gd (decide (t = k) && (!decide (k = 0) || decide (ρ2 60 0 0 (0 : Int32).toNatClampNeg = b))) (some ρ2))))
set_option maxHeartbeats 4000000 in
set_option maxRecDepth 100000 in
theorem w_group (C0 : kh_At p l s m b c D ca A L xs) (hw : kh_w D ca A ad ρ H) (hS : va_S A s.heap H locs) (hl : kh_lv ls 7 (kh_ll b ad i)) (hc : cells + 5 ≤ 601024) (hs : slots + 45 ≤ 7293034) (h1 : kh_in (i + 1) L = true) (e1 : xs (i + 1).toNatClampNeg = a1) (h2 : kh_in (i + 2) L = true) (e2 : xs (i + 2).toNatClampNeg = a2) (hF : s_group ρ a1 a2 = some ρ') (kk : kh_kk p l e s m b below meth c cells slots Q D ca A ad ρ ρ' i) : W p l e room_1 s m #[.ref b] below meth c H locs cells slots Q (F0 m 1288 ls []) := by
  obtain ⟨C, hlt, hT, hN, hX, hbl, hbA⟩ := C0
  unfold s_group at hF
  have hl : kh_lv ls 7 [(0, .ref b), (1, .ref (ad 0 0)), (2, .ref (ad 15 0)), (3, .ref (ad 60 0)), (4, .int i)] := hl
  refine lv_aload_n C.1 C.2.1 dL_law_1288 rfl (kh_at hl 1 rfl) ?_
  refine lv_aload_n C.1 C.2.1 dL_law_1289 rfl (kh_at hl 0 rfl) ?_
  refine lv_iload C.1 C.2.1 dL_law_1290 (kh_at hl 4 rfl) ?_
  refine lv_iconst (v := (1 : Int32)) C.1 C.2.1 dL_law_1292 (by decide) ?_
  refine lv_iadd C.1 C.2.1 dL_law_1293 ?_
  refine va_sld C.1 C.2.1 hX hbl hbA hS (kh_in_vp h1) dL_law_1294 ?_
  rw [e1]
  refine lv_aload_n C.1 C.2.1 dL_law_1295 rfl (kh_at hl 0 rfl) ?_
  refine lv_iload C.1 C.2.1 dL_law_1296 (kh_at hl 4 rfl) ?_
  refine lv_iconst (v := (2 : Int32)) C.1 C.2.1 dL_law_1298 (by decide) ?_
  refine lv_iadd C.1 C.2.1 dL_law_1299 ?_
  refine va_sld C.1 C.2.1 hX hbl hbA hS (kh_in_vp h2) dL_law_1300 ?_
  rw [e2]
  refine lv_aload_n C.1 C.2.1 dL_law_1301 rfl (kh_at hl 3 rfl) ?_
  obtain ⟨k, ρ1, f1, hF⟩ := kh_bd2_ok hF
  refine kh_calliM (vx_runSW (As := [.ref (ad 0 0), .int a1, .int a2, .ref (ad 60 0)]) (rest := []) ⟨C.1, C.2.1, C.2.2.1, C.2.2.2.1, C.2.2.2.2.1⟩ (c_L_group l hlt D ca A ad ρ a1 a2 f1) (vx_cwSW 4 C.2.2.2.2.1 gL_law_L_group rfl rfl rfl (by decide +kernel) ⟨Nat.le_of_ble_eq_true rfl, Nat.le_of_ble_eq_true rfl⟩) ⟨kh_blindN, fun U hU hW => ⟨rfl, (kh_preJ C hT hw hS (as := [.ref (ad 0 0), .int a1, .int a2, .ref (ad 60 0)]) U hU hW).2, hN.moved hW.alike⟩⟩ rfl rfl hl.1.1 rfl (lv_room (kh_sum kh_an (Nat.le_of_ble_eq_true rfl))) dL_law_1302 ⟨by show cells + 2 ≤ 601024; omega, by show slots + 12 ≤ 7293034; omega⟩) hS f1 (fun H locs hw hS => ?_)
  refine W.widen (k := cells + 5) (n := slots + 45) (Nat.add_le_add_left (Nat.le_of_ble_eq_true rfl) _) (Nat.add_le_add_left (Nat.le_of_ble_eq_true rfl) _) ?_
  refine kh_istore (lv' := [(5, .int k), (0, .ref b), (1, .ref (ad 0 0)), (2, .ref (ad 15 0)), (3, .ref (ad 60 0)), (4, .int i)]) C.1 C.2.1 dL_law_1305 hl (by decide) rfl (fun ls hl => ?_)
  refine lv_aload_n C.1 C.2.1 dL_law_1307 rfl (kh_at hl 3 rfl) ?_
  refine lv_aload_n C.1 C.2.1 dL_law_1308 rfl (kh_at hl 1 rfl) ?_
  refine lv_iload C.1 C.2.1 dL_law_1309 (kh_at hl 5 rfl) ?_
  refine lv_iconst (v := (1 : Int32)) C.1 C.2.1 dL_law_1311 (by decide) ?_
  refine lv_iadd C.1 C.2.1 dL_law_1312 ?_
  refine va_sld C.1 C.2.1 hX hbl hbA hS (kh_in_vp h1) dL_law_1313 ?_
  rw [e1]
  refine lv_aload_n C.1 C.2.1 dL_law_1314 rfl (kh_at hl 1 rfl) ?_
  refine lv_iload C.1 C.2.1 dL_law_1315 (kh_at hl 5 rfl) ?_
  refine lv_iconst (v := (2 : Int32)) C.1 C.2.1 dL_law_1317 (by decide) ?_
  refine lv_iadd C.1 C.2.1 dL_law_1318 ?_
  refine va_sld C.1 C.2.1 hX hbl hbA hS (kh_in_vp h2) dL_law_1319 ?_
  rw [e2]
  obtain ⟨u, ρ2, f2, hF⟩ := kh_bd2_ok hF
  refine kh_calli (va_runV (As := [.int a1, .int a2]) (rest := []) ⟨C.1, C.2.1, C.2.2.1, C.2.2.2.1, C.2.2.2.2.1⟩ (c_X5_group l D ca A ad ρ1 a1 a2 f2) (cwV 2 C.2.2.2.2.1 gL_law_X5_group rfl rfl rfl (by decide +kernel) ⟨Nat.le_of_ble_eq_true rfl, Nat.le_of_ble_eq_true rfl⟩) (kh_preV C hw hS 15 (kh_z15 ρ1) kh_kd15 rfl) rfl rfl hl.1.1 rfl (lv_room (kh_sum kh_an (Nat.le_of_ble_eq_true rfl))) dL_law_1320 ⟨by show cells + 5 + 0 ≤ 601024; omega, by show slots + 45 + 0 ≤ 7293034; omega⟩) hS f2 (fun H locs hw hS => ?_)
  refine kh_istore (lv' := [(6, .int u), (5, .int k), (0, .ref b), (1, .ref (ad 0 0)), (2, .ref (ad 15 0)), (3, .ref (ad 60 0)), (4, .int i)]) C.1 C.2.1 dL_law_1323 hl (by decide) rfl (fun ls hl => ?_)
  refine lv_aload_n C.1 C.2.1 dL_law_1325 rfl (kh_at hl 4 rfl) ?_
  obtain ⟨t, f3, hF⟩ := kh_bd_ok hF
  refine kh_calli (va_runV (As := []) (rest := []) ⟨C.1, C.2.1, C.2.2.1, C.2.2.2.1, C.2.2.2.2.1⟩ (c_X5_thrown l D ca A ad ρ2 f3) (cwV 0 C.2.2.2.2.1 gL_law_X5_thrown rfl rfl rfl (by decide +kernel) ⟨Nat.le_of_ble_eq_true rfl, Nat.le_of_ble_eq_true rfl⟩) (kh_preV C hw hS 15 (kh_z15 ρ2) kh_kd15 rfl) rfl rfl hl.1.1 rfl (lv_room (kh_sum kh_an (Nat.le_of_ble_eq_true rfl))) dL_law_1326 ⟨by show cells + 5 + 0 ≤ 601024; omega, by show slots + 45 + 0 ≤ 7293034; omega⟩) hS (kh_mp f3) (fun H locs hw hS => ?_)
  obtain ⟨g1, hF⟩ := kh_gd_ok hF
  obtain rfl := Option.some.inj hF
  simp only [Bool.and_eq_true, Bool.or_eq_true, Bool.not_eq_true', decide_eq_true_eq, decide_eq_false_iff_not] at g1
  obtain ⟨g1, g2⟩ := g1
  refine lv_iload C.1 C.2.1 dL_law_1329 (kh_at hl 1 rfl) ?_
  refine lv_icmp_eq (tgt := 1336) C.1 C.2.1 dL_law_1331 (by decide) (fun _ => ?_) (fun c9 => absurd g1 c9)
  refine lv_iload C.1 C.2.1 dL_law_1336 (kh_at hl 1 rfl) ?_
  refine lv_if_ne (tgt := 1353) C.1 C.2.1 dL_law_1338 (by decide) (fun c9 => ?_) (fun c9 => ?_)
  · refine lv_goto (tgt := 1492) C.1 C.2.1 dL_law_1353 (by decide) ?_
    exact kk _ _ _ _ (kh_agr _ _) hw hS (kh_sub hl [2, 3, 4, 5, 6] rfl)
  have g3 := g2.resolve_left (fun z => z c9)
  refine lv_aload_n C.1 C.2.1 dL_law_1341 rfl (kh_at hl 5 rfl) ?_
  refine lv_iconst (v := (0 : Int32)) C.1 C.2.1 dL_law_1342 (by decide) ?_
  refine kh_lald C hw 60 rfl (kh_z60 ρ2) kh_kd60 (by decide) dL_law_1343 ?_
  rw [g3]
  refine lv_iload C.1 C.2.1 dL_law_1344 (kh_at hl 0 rfl) ?_
  refine lv_i2l (v := u.toInt64) C.1 C.2.1 dL_law_1346 rfl ?_
  refine W.lcmp C.1 C.2.1 dL_law_1347 ?_
  rw [kh_cmp0]
  refine lv_if_eq (tgt := 1353) C.1 C.2.1 dL_law_1348 (by decide) (fun _ => ?_) (fun c9 => absurd rfl c9)
  refine lv_goto (tgt := 1492) C.1 C.2.1 dL_law_1353 (by decide) ?_
  exact kk _ _ _ _ (kh_agr _ _) hw hS (kh_sub hl [2, 3, 4, 5, 6] rfl)

def s_crew (ρ : kh_S) (a1 : Int32) (a2 : Int32) : Option kh_S := kh_bd2 (f_L_crew ρ a1 a2) (fun k ρ1 => kh_bd2 (f_X5_crew ρ1 a1 a2) (fun b ρ2 => kh_bd (f_X5_thrown ρ2) (fun t => kh_gd (decide (t = k) && (!decide (k = 0) || decide (ρ2 60 0 0 (0 : Int32).toNatClampNeg = b))) (some ρ2))))
set_option maxHeartbeats 4000000 in
set_option maxRecDepth 100000 in
theorem w_crew (C0 : kh_At p l s m b c D ca A L xs) (hw : kh_w D ca A ad ρ H) (hS : va_S A s.heap H locs) (hl : kh_lv ls 7 (kh_ll b ad i)) (hc : cells + 5 ≤ 601024) (hs : slots + 45 ≤ 7293034) (h1 : kh_in (i + 1) L = true) (e1 : xs (i + 1).toNatClampNeg = a1) (h2 : kh_in (i + 2) L = true) (e2 : xs (i + 2).toNatClampNeg = a2) (hF : s_crew ρ a1 a2 = some ρ') (kk : kh_kk p l e s m b below meth c cells slots Q D ca A ad ρ ρ' i) : W p l e room_1 s m #[.ref b] below meth c H locs cells slots Q (F0 m 1356 ls []) := by
  obtain ⟨C, hlt, hT, hN, hX, hbl, hbA⟩ := C0
  unfold s_crew at hF
  have hl : kh_lv ls 7 [(0, .ref b), (1, .ref (ad 0 0)), (2, .ref (ad 15 0)), (3, .ref (ad 60 0)), (4, .int i)] := hl
  refine lv_aload_n C.1 C.2.1 dL_law_1356 rfl (kh_at hl 1 rfl) ?_
  refine lv_aload_n C.1 C.2.1 dL_law_1357 rfl (kh_at hl 0 rfl) ?_
  refine lv_iload C.1 C.2.1 dL_law_1358 (kh_at hl 4 rfl) ?_
  refine lv_iconst (v := (1 : Int32)) C.1 C.2.1 dL_law_1360 (by decide) ?_
  refine lv_iadd C.1 C.2.1 dL_law_1361 ?_
  refine va_sld C.1 C.2.1 hX hbl hbA hS (kh_in_vp h1) dL_law_1362 ?_
  rw [e1]
  refine lv_aload_n C.1 C.2.1 dL_law_1363 rfl (kh_at hl 0 rfl) ?_
  refine lv_iload C.1 C.2.1 dL_law_1364 (kh_at hl 4 rfl) ?_
  refine lv_iconst (v := (2 : Int32)) C.1 C.2.1 dL_law_1366 (by decide) ?_
  refine lv_iadd C.1 C.2.1 dL_law_1367 ?_
  refine va_sld C.1 C.2.1 hX hbl hbA hS (kh_in_vp h2) dL_law_1368 ?_
  rw [e2]
  refine lv_aload_n C.1 C.2.1 dL_law_1369 rfl (kh_at hl 3 rfl) ?_
  obtain ⟨k, ρ1, f1, hF⟩ := kh_bd2_ok hF
  refine kh_calliM (vx_runSW (As := [.ref (ad 0 0), .int a1, .int a2, .ref (ad 60 0)]) (rest := []) ⟨C.1, C.2.1, C.2.2.1, C.2.2.2.1, C.2.2.2.2.1⟩ (c_L_crew l hlt D ca A ad ρ a1 a2 f1) (vx_cwSW 4 C.2.2.2.2.1 gL_law_L_crew rfl rfl rfl (by decide +kernel) ⟨Nat.le_of_ble_eq_true rfl, Nat.le_of_ble_eq_true rfl⟩) ⟨kh_blindN, fun U hU hW => ⟨rfl, (kh_preJ C hT hw hS (as := [.ref (ad 0 0), .int a1, .int a2, .ref (ad 60 0)]) U hU hW).2, hN.moved hW.alike⟩⟩ rfl rfl hl.1.1 rfl (lv_room (kh_sum kh_an (Nat.le_of_ble_eq_true rfl))) dL_law_1370 ⟨by show cells + 2 ≤ 601024; omega, by show slots + 12 ≤ 7293034; omega⟩) hS f1 (fun H locs hw hS => ?_)
  refine W.widen (k := cells + 5) (n := slots + 45) (Nat.add_le_add_left (Nat.le_of_ble_eq_true rfl) _) (Nat.add_le_add_left (Nat.le_of_ble_eq_true rfl) _) ?_
  refine kh_istore (lv' := [(5, .int k), (0, .ref b), (1, .ref (ad 0 0)), (2, .ref (ad 15 0)), (3, .ref (ad 60 0)), (4, .int i)]) C.1 C.2.1 dL_law_1373 hl (by decide) rfl (fun ls hl => ?_)
  refine lv_aload_n C.1 C.2.1 dL_law_1375 rfl (kh_at hl 3 rfl) ?_
  refine lv_aload_n C.1 C.2.1 dL_law_1376 rfl (kh_at hl 1 rfl) ?_
  refine lv_iload C.1 C.2.1 dL_law_1377 (kh_at hl 5 rfl) ?_
  refine lv_iconst (v := (1 : Int32)) C.1 C.2.1 dL_law_1379 (by decide) ?_
  refine lv_iadd C.1 C.2.1 dL_law_1380 ?_
  refine va_sld C.1 C.2.1 hX hbl hbA hS (kh_in_vp h1) dL_law_1381 ?_
  rw [e1]
  refine lv_aload_n C.1 C.2.1 dL_law_1382 rfl (kh_at hl 1 rfl) ?_
  refine lv_iload C.1 C.2.1 dL_law_1383 (kh_at hl 5 rfl) ?_
  refine lv_iconst (v := (2 : Int32)) C.1 C.2.1 dL_law_1385 (by decide) ?_
  refine lv_iadd C.1 C.2.1 dL_law_1386 ?_
  refine va_sld C.1 C.2.1 hX hbl hbA hS (kh_in_vp h2) dL_law_1387 ?_
  rw [e2]
  obtain ⟨u, ρ2, f2, hF⟩ := kh_bd2_ok hF
  refine kh_calli (va_runV (As := [.int a1, .int a2]) (rest := []) ⟨C.1, C.2.1, C.2.2.1, C.2.2.2.1, C.2.2.2.2.1⟩ (c_X5_crew l D ca A ad ρ1 a1 a2 f2) (cwV 2 C.2.2.2.2.1 gL_law_X5_crew rfl rfl rfl (by decide +kernel) ⟨Nat.le_of_ble_eq_true rfl, Nat.le_of_ble_eq_true rfl⟩) (kh_preV C hw hS 15 (kh_z15 ρ1) kh_kd15 rfl) rfl rfl hl.1.1 rfl (lv_room (kh_sum kh_an (Nat.le_of_ble_eq_true rfl))) dL_law_1388 ⟨by show cells + 5 + 0 ≤ 601024; omega, by show slots + 45 + 0 ≤ 7293034; omega⟩) hS f2 (fun H locs hw hS => ?_)
  refine kh_istore (lv' := [(6, .int u), (5, .int k), (0, .ref b), (1, .ref (ad 0 0)), (2, .ref (ad 15 0)), (3, .ref (ad 60 0)), (4, .int i)]) C.1 C.2.1 dL_law_1391 hl (by decide) rfl (fun ls hl => ?_)
  refine lv_aload_n C.1 C.2.1 dL_law_1393 rfl (kh_at hl 4 rfl) ?_
  obtain ⟨t, f3, hF⟩ := kh_bd_ok hF
  refine kh_calli (va_runV (As := []) (rest := []) ⟨C.1, C.2.1, C.2.2.1, C.2.2.2.1, C.2.2.2.2.1⟩ (c_X5_thrown l D ca A ad ρ2 f3) (cwV 0 C.2.2.2.2.1 gL_law_X5_thrown rfl rfl rfl (by decide +kernel) ⟨Nat.le_of_ble_eq_true rfl, Nat.le_of_ble_eq_true rfl⟩) (kh_preV C hw hS 15 (kh_z15 ρ2) kh_kd15 rfl) rfl rfl hl.1.1 rfl (lv_room (kh_sum kh_an (Nat.le_of_ble_eq_true rfl))) dL_law_1394 ⟨by show cells + 5 + 0 ≤ 601024; omega, by show slots + 45 + 0 ≤ 7293034; omega⟩) hS (kh_mp f3) (fun H locs hw hS => ?_)
  obtain ⟨g1, hF⟩ := kh_gd_ok hF
  obtain rfl := Option.some.inj hF
  simp only [Bool.and_eq_true, Bool.or_eq_true, Bool.not_eq_true', decide_eq_true_eq, decide_eq_false_iff_not] at g1
  obtain ⟨g1, g2⟩ := g1
  refine lv_iload C.1 C.2.1 dL_law_1397 (kh_at hl 1 rfl) ?_
  refine lv_icmp_eq (tgt := 1404) C.1 C.2.1 dL_law_1399 (by decide) (fun _ => ?_) (fun c9 => absurd g1 c9)
  refine lv_iload C.1 C.2.1 dL_law_1404 (kh_at hl 1 rfl) ?_
  refine lv_if_ne (tgt := 1421) C.1 C.2.1 dL_law_1406 (by decide) (fun c9 => ?_) (fun c9 => ?_)
  · refine lv_goto (tgt := 1492) C.1 C.2.1 dL_law_1421 (by decide) ?_
    exact kk _ _ _ _ (kh_agr _ _) hw hS (kh_sub hl [2, 3, 4, 5, 6] rfl)
  have g3 := g2.resolve_left (fun z => z c9)
  refine lv_aload_n C.1 C.2.1 dL_law_1409 rfl (kh_at hl 5 rfl) ?_
  refine lv_iconst (v := (0 : Int32)) C.1 C.2.1 dL_law_1410 (by decide) ?_
  refine kh_lald C hw 60 rfl (kh_z60 ρ2) kh_kd60 (by decide) dL_law_1411 ?_
  rw [g3]
  refine lv_iload C.1 C.2.1 dL_law_1412 (kh_at hl 0 rfl) ?_
  refine lv_i2l (v := u.toInt64) C.1 C.2.1 dL_law_1414 rfl ?_
  refine W.lcmp C.1 C.2.1 dL_law_1415 ?_
  rw [kh_cmp0]
  refine lv_if_eq (tgt := 1421) C.1 C.2.1 dL_law_1416 (by decide) (fun _ => ?_) (fun c9 => absurd rfl c9)
  refine lv_goto (tgt := 1492) C.1 C.2.1 dL_law_1421 (by decide) ?_
  exact kk _ _ _ _ (kh_agr _ _) hw hS (kh_sub hl [2, 3, 4, 5, 6] rfl)

def s_booking (ρ : kh_S) (a1 : Int32) (a2 : Int32) : Option kh_S := kh_bd2 (f_L_booking ρ a1 a2) (fun k ρ1 => kh_bd2 (f_X5_booking ρ1 a1 a2) (fun b ρ2 => kh_bd (f_X5_thrown ρ2) (fun t => kh_gd (decide (t = k) && (!decide (k = 0) || decide (ρ2 60 0 0 (0 : Int32).toNatClampNeg = b))) (some ρ2))))
set_option maxHeartbeats 4000000 in
set_option maxRecDepth 100000 in
theorem w_booking (C0 : kh_At p l s m b c D ca A L xs) (hw : kh_w D ca A ad ρ H) (hS : va_S A s.heap H locs) (hl : kh_lv ls 7 (kh_ll b ad i)) (hc : cells + 5 ≤ 601024) (hs : slots + 45 ≤ 7293034) (h1 : kh_in (i + 1) L = true) (e1 : xs (i + 1).toNatClampNeg = a1) (h2 : kh_in (i + 2) L = true) (e2 : xs (i + 2).toNatClampNeg = a2) (hF : s_booking ρ a1 a2 = some ρ') (kk : kh_kk p l e s m b below meth c cells slots Q D ca A ad ρ ρ' i) : W p l e room_1 s m #[.ref b] below meth c H locs cells slots Q (F0 m 1424 ls []) := by
  obtain ⟨C, hlt, hT, hN, hX, hbl, hbA⟩ := C0
  unfold s_booking at hF
  have hl : kh_lv ls 7 [(0, .ref b), (1, .ref (ad 0 0)), (2, .ref (ad 15 0)), (3, .ref (ad 60 0)), (4, .int i)] := hl
  refine lv_aload_n C.1 C.2.1 dL_law_1424 rfl (kh_at hl 1 rfl) ?_
  refine lv_aload_n C.1 C.2.1 dL_law_1425 rfl (kh_at hl 0 rfl) ?_
  refine lv_iload C.1 C.2.1 dL_law_1426 (kh_at hl 4 rfl) ?_
  refine lv_iconst (v := (1 : Int32)) C.1 C.2.1 dL_law_1428 (by decide) ?_
  refine lv_iadd C.1 C.2.1 dL_law_1429 ?_
  refine va_sld C.1 C.2.1 hX hbl hbA hS (kh_in_vp h1) dL_law_1430 ?_
  rw [e1]
  refine lv_aload_n C.1 C.2.1 dL_law_1431 rfl (kh_at hl 0 rfl) ?_
  refine lv_iload C.1 C.2.1 dL_law_1432 (kh_at hl 4 rfl) ?_
  refine lv_iconst (v := (2 : Int32)) C.1 C.2.1 dL_law_1434 (by decide) ?_
  refine lv_iadd C.1 C.2.1 dL_law_1435 ?_
  refine va_sld C.1 C.2.1 hX hbl hbA hS (kh_in_vp h2) dL_law_1436 ?_
  rw [e2]
  refine lv_aload_n C.1 C.2.1 dL_law_1437 rfl (kh_at hl 3 rfl) ?_
  obtain ⟨k, ρ1, f1, hF⟩ := kh_bd2_ok hF
  refine kh_calliM (vx_runSW (As := [.ref (ad 0 0), .int a1, .int a2, .ref (ad 60 0)]) (rest := []) ⟨C.1, C.2.1, C.2.2.1, C.2.2.2.1, C.2.2.2.2.1⟩ (c_L_booking l hlt D ca A ad ρ a1 a2 f1) (vx_cwSW 4 C.2.2.2.2.1 gL_law_L_booking rfl rfl rfl (by decide +kernel) ⟨Nat.le_of_ble_eq_true rfl, Nat.le_of_ble_eq_true rfl⟩) ⟨kh_blindN, fun U hU hW => ⟨rfl, (kh_preJ C hT hw hS (as := [.ref (ad 0 0), .int a1, .int a2, .ref (ad 60 0)]) U hU hW).2, hN.moved hW.alike⟩⟩ rfl rfl hl.1.1 rfl (lv_room (kh_sum kh_an (Nat.le_of_ble_eq_true rfl))) dL_law_1438 ⟨by show cells + 2 ≤ 601024; omega, by show slots + 12 ≤ 7293034; omega⟩) hS f1 (fun H locs hw hS => ?_)
  refine W.widen (k := cells + 5) (n := slots + 45) (Nat.add_le_add_left (Nat.le_of_ble_eq_true rfl) _) (Nat.add_le_add_left (Nat.le_of_ble_eq_true rfl) _) ?_
  refine kh_istore (lv' := [(5, .int k), (0, .ref b), (1, .ref (ad 0 0)), (2, .ref (ad 15 0)), (3, .ref (ad 60 0)), (4, .int i)]) C.1 C.2.1 dL_law_1441 hl (by decide) rfl (fun ls hl => ?_)
  refine lv_aload_n C.1 C.2.1 dL_law_1443 rfl (kh_at hl 3 rfl) ?_
  refine lv_aload_n C.1 C.2.1 dL_law_1444 rfl (kh_at hl 1 rfl) ?_
  refine lv_iload C.1 C.2.1 dL_law_1445 (kh_at hl 5 rfl) ?_
  refine lv_iconst (v := (1 : Int32)) C.1 C.2.1 dL_law_1447 (by decide) ?_
  refine lv_iadd C.1 C.2.1 dL_law_1448 ?_
  refine va_sld C.1 C.2.1 hX hbl hbA hS (kh_in_vp h1) dL_law_1449 ?_
  rw [e1]
  refine lv_aload_n C.1 C.2.1 dL_law_1450 rfl (kh_at hl 1 rfl) ?_
  refine lv_iload C.1 C.2.1 dL_law_1451 (kh_at hl 5 rfl) ?_
  refine lv_iconst (v := (2 : Int32)) C.1 C.2.1 dL_law_1453 (by decide) ?_
  refine lv_iadd C.1 C.2.1 dL_law_1454 ?_
  refine va_sld C.1 C.2.1 hX hbl hbA hS (kh_in_vp h2) dL_law_1455 ?_
  rw [e2]
  obtain ⟨u, ρ2, f2, hF⟩ := kh_bd2_ok hF
  refine kh_calli (va_runV (As := [.int a1, .int a2]) (rest := []) ⟨C.1, C.2.1, C.2.2.1, C.2.2.2.1, C.2.2.2.2.1⟩ (c_X5_booking l D ca A ad ρ1 a1 a2 f2) (cwV 2 C.2.2.2.2.1 gL_law_X5_booking rfl rfl rfl (by decide +kernel) ⟨Nat.le_of_ble_eq_true rfl, Nat.le_of_ble_eq_true rfl⟩) (kh_preV C hw hS 15 (kh_z15 ρ1) kh_kd15 rfl) rfl rfl hl.1.1 rfl (lv_room (kh_sum kh_an (Nat.le_of_ble_eq_true rfl))) dL_law_1456 ⟨by show cells + 5 + 0 ≤ 601024; omega, by show slots + 45 + 0 ≤ 7293034; omega⟩) hS f2 (fun H locs hw hS => ?_)
  refine kh_istore (lv' := [(6, .int u), (5, .int k), (0, .ref b), (1, .ref (ad 0 0)), (2, .ref (ad 15 0)), (3, .ref (ad 60 0)), (4, .int i)]) C.1 C.2.1 dL_law_1459 hl (by decide) rfl (fun ls hl => ?_)
  refine lv_aload_n C.1 C.2.1 dL_law_1461 rfl (kh_at hl 4 rfl) ?_
  obtain ⟨t, f3, hF⟩ := kh_bd_ok hF
  refine kh_calli (va_runV (As := []) (rest := []) ⟨C.1, C.2.1, C.2.2.1, C.2.2.2.1, C.2.2.2.2.1⟩ (c_X5_thrown l D ca A ad ρ2 f3) (cwV 0 C.2.2.2.2.1 gL_law_X5_thrown rfl rfl rfl (by decide +kernel) ⟨Nat.le_of_ble_eq_true rfl, Nat.le_of_ble_eq_true rfl⟩) (kh_preV C hw hS 15 (kh_z15 ρ2) kh_kd15 rfl) rfl rfl hl.1.1 rfl (lv_room (kh_sum kh_an (Nat.le_of_ble_eq_true rfl))) dL_law_1462 ⟨by show cells + 5 + 0 ≤ 601024; omega, by show slots + 45 + 0 ≤ 7293034; omega⟩) hS (kh_mp f3) (fun H locs hw hS => ?_)
  obtain ⟨g1, hF⟩ := kh_gd_ok hF
  obtain rfl := Option.some.inj hF
  simp only [Bool.and_eq_true, Bool.or_eq_true, Bool.not_eq_true', decide_eq_true_eq, decide_eq_false_iff_not] at g1
  obtain ⟨g1, g2⟩ := g1
  refine lv_iload C.1 C.2.1 dL_law_1465 (kh_at hl 1 rfl) ?_
  refine lv_icmp_eq (tgt := 1472) C.1 C.2.1 dL_law_1467 (by decide) (fun _ => ?_) (fun c9 => absurd g1 c9)
  refine lv_iload C.1 C.2.1 dL_law_1472 (kh_at hl 1 rfl) ?_
  refine lv_if_ne (tgt := 1489) C.1 C.2.1 dL_law_1474 (by decide) (fun c9 => ?_) (fun c9 => ?_)
  · refine lv_goto (tgt := 1492) C.1 C.2.1 dL_law_1489 (by decide) ?_
    exact kk _ _ _ _ (kh_agr _ _) hw hS (kh_sub hl [2, 3, 4, 5, 6] rfl)
  have g3 := g2.resolve_left (fun z => z c9)
  refine lv_aload_n C.1 C.2.1 dL_law_1477 rfl (kh_at hl 5 rfl) ?_
  refine lv_iconst (v := (0 : Int32)) C.1 C.2.1 dL_law_1478 (by decide) ?_
  refine kh_lald C hw 60 rfl (kh_z60 ρ2) kh_kd60 (by decide) dL_law_1479 ?_
  rw [g3]
  refine lv_iload C.1 C.2.1 dL_law_1480 (kh_at hl 0 rfl) ?_
  refine lv_i2l (v := u.toInt64) C.1 C.2.1 dL_law_1482 rfl ?_
  refine W.lcmp C.1 C.2.1 dL_law_1483 ?_
  rw [kh_cmp0]
  refine lv_if_eq (tgt := 1489) C.1 C.2.1 dL_law_1484 (by decide) (fun _ => ?_) (fun c9 => absurd rfl c9)
  refine lv_goto (tgt := 1492) C.1 C.2.1 dL_law_1489 (by decide) ?_
  exact kk _ _ _ _ (kh_agr _ _) hw hS (kh_sub hl [2, 3, 4, 5, 6] rfl)

end KHW
