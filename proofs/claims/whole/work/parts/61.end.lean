/-! one call after the other; the claim -/
def Iv (ρ : kh_S) : Prop := ∃ (σ : kh_S) (R G B : Nat) (P : Nat → Nat), good σ R G B P ∧ relC ρ σ R G B P ∧ kM ρ σ
section FIN
variable {ρ σ : kh_S} {R G B : Nat} {P : Nat → Nat} {FL FM : kh_S → Option (Int32 × kh_S)} {FV : kh_S → Option kh_S}
theorem kp_z0 : (0 : Int32).toNatClampNeg = 0 := rfl
theorem st_ok (h : stepOK FL FM σ R G B P) (q : relC ρ σ R G B P) (m : kM ρ σ) : ∃ ρ', kh_bd2 (FL ρ) (fun k ρ1 => kh_bd2 (FM ρ1) (fun b ρ2 => kh_bd (f_X5_thrown ρ2) (fun t => kh_gd (decide (t = k) && (!decide (k = 0) || decide (ρ2 60 0 0 (0 : Int32).toNatClampNeg = b))) (some ρ2)))) = some ρ' ∧ Iv ρ' := by
  obtain ⟨k, b, σ', R', G', B', P', g', hC, hM⟩ := h
  obtain ⟨ρ1, c1, c2, c3, c4⟩ := hC ρ q
  obtain ⟨ρ2, m1, m2, m3, m4⟩ := hM ρ1 (kM_fr m c3)
  refine ⟨ρ2, ?_, σ', R', G', B', P', g', relC_fr (fun k h => m3 k (by omega)) c2, m2⟩
  have h60 : ρ2 60 = ρ1 60 := m3 60 (by omega)
  rw [c1, kp_bd2, m1, kp_bd2]
  show kh_gd (decide (ρ2 15 0 0 0 = k) && (!decide (k = 0) || decide (ρ2 60 0 0 (0 : Int32).toNatClampNeg = b))) (some ρ2) = some ρ2
  rw [m4, kp_z0, h60]
  refine kp_gdT ?_
  by_cases hk : k = 0
  · rw [c4 hk]; simp
  · simp [hk]
theorem st_okB (h : stepB FL FM σ R G B P) (q : relC ρ σ R G B P) (m : kM ρ σ) : ∃ ρ', kh_bd2 (FL ρ) (fun k ρ1 => kh_bd2 (FM ρ1) (fun b ρ2 => kh_bd (f_X5_thrown ρ2) (fun t => kh_gd (decide (t = k) && (!decide (k = 0) || decide (ρ2 60 0 0 (0 : Int32).toNatClampNeg = (if b = 0 then 0 else 1)))) (some ρ2)))) = some ρ' ∧ Iv ρ' := by
  obtain ⟨k, b, σ', R', G', B', P', g', hC, hM⟩ := h
  obtain ⟨ρ1, c1, c2, c3, c4⟩ := hC ρ q
  obtain ⟨ρ2, m1, m2, m3, m4⟩ := hM ρ1 (kM_fr m c3)
  refine ⟨ρ2, ?_, σ', R', G', B', P', g', relC_fr (fun k h => m3 k (by omega)) c2, m2⟩
  have h60 : ρ2 60 = ρ1 60 := m3 60 (by omega)
  rw [c1, kp_bd2, m1, kp_bd2]
  show kh_gd (decide (ρ2 15 0 0 0 = k) && (!decide (k = 0) || decide (ρ2 60 0 0 (0 : Int32).toNatClampNeg = (if b = 0 then 0 else 1)))) (some ρ2) = some ρ2
  rw [m4, kp_z0, h60]
  refine kp_gdT ?_
  by_cases hk : k = 0
  · rw [c4 hk]; simp
  · simp [hk]
theorem st_okV (h : stepV FL FV σ R G B P) (q : relC ρ σ R G B P) (m : kM ρ σ) : ∃ ρ', kh_bd2 (FL ρ) (fun k ρ1 => kh_bd (FV ρ1) (fun ρ2 => kh_bd (f_X5_thrown ρ2) (fun t => kh_gd (decide (t = k)) (some ρ2)))) = some ρ' ∧ Iv ρ' := by
  obtain ⟨k, σ', R', G', B', P', g', hC, hM⟩ := h
  obtain ⟨ρ1, c1, c2, c3⟩ := hC ρ q
  obtain ⟨ρ2, m1, m2, m3, m4⟩ := hM ρ1 (kM_fr m c3)
  refine ⟨ρ2, ?_, σ', R', G', B', P', g', relC_fr (fun k h => m3 k (by omega)) c2, m2⟩
  rw [c1, kp_bd2, m1, kp_bd]
  show kh_gd (decide (ρ2 15 0 0 0 = k)) (some ρ2) = some ρ2
  rw [m4]
  exact kp_gdT (decide_eq_true rfl)
theorem st_minute (g : good σ R G B P) (q : relC ρ σ R G B P) (m : kM ρ σ) : ∃ ρ', s_minute ρ = some ρ' ∧ Iv ρ' := by
  refine ⟨kh_up ρ 15 0 0 0 0, ?_, kh_up σ 15 0 0 0 0, R, G, B, P, eqv_good (eqv_thr σ 0) g, relC_fr (fun k h => up_k (by omega)) (eqv_relC (eqv_thr σ 0) q), kM_up m 15 0 0 0 rfl⟩
  unfold s_minute f_X4_minute f_X5_minute
  rw [kp_bd, kp_bd2]
  refine kp_gdT (decide_eq_true ?_)
  rw [q.1.2.2.2.2.2.2.2, kh_up_ne (by omega), m 15 (by omega) (by omega)]
end FIN
theorem Iv_0 : Iv kh_0 := by
  refine ⟨kh_0, 0, 0, 0, fun _ => 0, ⟨⟨⟨rfl, by omega, rfl, by omega, rfl, by omega, 0, by omega, rfl⟩, fun r h => by omega, fun r h1 h2 => ⟨rfl, rfl, rfl, rfl, rfl⟩, fun r h => by omega, fun r h => by omega, fun g h1 h2 => ⟨rfl, rfl, fun k hk => rfl⟩, fun i hi => ⟨Or.inl rfl, Or.inl ⟨?_, ?_⟩⟩, fun i j r hi hj hr hij h => ?_, fun b h => by omega⟩, fun r h => by omega⟩, ⟨⟨rfl, rfl, rfl, rfl, rfl, rfl, rfl, rfl⟩, ⟨fun j => rfl, fun j => rfl, fun j => rfl, fun j => ?_⟩, fun r h => by omega, fun r h => by omega, fun i hi => ⟨?_, ?_, ?_, fun r hr h => ?_⟩, fun b h => by omega⟩, kM_rfl _⟩
  · simp [kh_0, hi]
  · simp [kh_0, hi]
  · have h : kh_0 43 0 0 i = nI r := h
    have h2 : kh_0 43 0 0 i = -1 := by simp [kh_0, hi]
    exact absurd (h.symm.trans h2) (nI_m1 (by omega))
  · show (if j = 0 then (0 : Int32) else if j = 1 then 1 else if j = 2 then 2 else -1) = if j < 3 then nI j else -1
    by_cases h0 : j = 0
    · subst h0; rfl
    by_cases h1 : j = 1
    · subst h1; rfl
    by_cases h2 : j = 2
    · subst h2; rfl
    rw [if_neg h0, if_neg h1, if_neg h2, if_neg (by omega)]
  · show (-1 : Int32) = kh_0 43 0 0 i
    simp [kh_0, hi]
  · show (-1 : Int32) = kh_0 44 0 0 i
    simp [kh_0, hi]
  · show (-1 : Int32) = if kh_0 43 0 0 i = -1 then -1 else kh_0 45 0 0 i
    simp [kh_0, hi]
  · have h2 : kh_0 43 0 0 i = -1 := by simp [kh_0, hi]
    exact absurd (h.symm.trans h2) (nI_m1 (by omega))
theorem Iv_step (ρ : kh_S) (o a1 a2 a3 a4 a5 : Int32) (h : Iv ρ) : ∃ ρ', kh_step ρ o a1 a2 a3 a4 a5 = some ρ' ∧ Iv ρ' := by
  obtain ⟨σ, R, G, B, P, g, q, m⟩ := id h
  unfold kh_step
  by_cases c0 : o = (0 : Int32)
  · rw [if_pos c0]
    exact st_ok (q_room g a1) q m
  rw [if_neg c0]
  by_cases c1 : o = (1 : Int32)
  · rw [if_pos c1]
    exact st_ok (q_puzzle g a1 a2 a3 a4 a5) q m
  rw [if_neg c1]
  by_cases c2 : o = (2 : Int32)
  · rw [if_pos c2]
    exact st_ok (q_prop g a1 a2) q m
  rw [if_neg c2]
  by_cases c3 : o = (3 : Int32)
  · rw [if_pos c3]
    exact st_ok (q_had g a1 a2) q m
  rw [if_neg c3]
  by_cases c4 : o = (4 : Int32)
  · rw [if_pos c4]
    exact st_okB (q_canBeLeft g a1) q m
  rw [if_neg c4]
  by_cases c5 : o = (5 : Int32)
  · rw [if_pos c5]
    exact st_ok (q_orders g a1) q m
  rw [if_neg c5]
  by_cases c6 : o = (6 : Int32)
  · rw [if_pos c6]
    exact st_ok (q_ordersAnew g a1) q m
  rw [if_neg c6]
  by_cases c7 : o = (7 : Int32)
  · rw [if_pos c7]
    exact st_ok (q_come g a1) q m
  rw [if_neg c7]
  by_cases c8 : o = (8 : Int32)
  · rw [if_pos c8]
    exact st_ok (q_solve g a1 a2) q m
  rw [if_neg c8]
  by_cases c9 : o = (9 : Int32)
  · rw [if_pos c9]
    exact st_ok (q_hint g a1) q m
  rw [if_neg c9]
  by_cases c10 : o = (10 : Int32)
  · rw [if_pos c10]
    exact st_okV (q_giveUp g a1) q m
  rw [if_neg c10]
  by_cases c11 : o = (11 : Int32)
  · rw [if_pos c11]
    exact st_okV (q_reset g a1 a2 (if a3 = 0 then (0 : Int32) else 1) (by split <;> simp)) q m
  rw [if_neg c11]
  by_cases c12 : o = (12 : Int32)
  · rw [if_pos c12]
    exact st_ok (q_forget g a1) q m
  rw [if_neg c12]
  by_cases c13 : o = (13 : Int32)
  · rw [if_pos c13]
    exact st_ok (q_book g a1 a2) q m
  rw [if_neg c13]
  by_cases c14 : o = (14 : Int32)
  · rw [if_pos c14]
    exact st_okV (q_cancel g a1) q m
  rw [if_neg c14]
  by_cases c15 : o = (15 : Int32)
  · rw [if_pos c15]
    exact st_ok (q_offer g a1 a2) q m
  rw [if_neg c15]
  by_cases c16 : o = (16 : Int32)
  · rw [if_pos c16]
    exact st_ok (q_pass g a1) q m
  rw [if_neg c16]
  by_cases c17 : o = (17 : Int32)
  · rw [if_pos c17]
    exact st_minute g q m
  rw [if_neg c17]
  by_cases c18 : o = (18 : Int32)
  · rw [if_pos c18]
    exact st_ok (q_state g a1 a2) q m
  rw [if_neg c18]
  by_cases c19 : o = (19 : Int32)
  · rw [if_pos c19]
    exact st_ok (q_group g a1 a2) q m
  rw [if_neg c19]
  by_cases c20 : o = (20 : Int32)
  · rw [if_pos c20]
    exact st_ok (q_crew g a1 a2) q m
  rw [if_neg c20]
  by_cases c21 : o = (21 : Int32)
  · rw [if_pos c21]
    exact st_ok (q_booking g a1 a2) q m
  rw [if_neg c21]
  exact ⟨ρ, rfl, h⟩
theorem whole_start {p : Program} {e : Env} {s : State} {m : MethodId} {below : List Frame} {meth : Method} {c : Code} (l : Launch) (hflags : l.flags = flags0) {b L : Nat} {xs : Nat → Int32} (hL : L ≤ 3072) (C0 : lw_At p s m meth c b L xs) : W p l e room_1 s m #[Value.ref b] below meth c s.heap [] 0 0 (lw_Z below #[Value.ref b] s) (entryFrame m ([Value.ref b] : List Value).toArray 7) := by
  exact kh_walk l hflags hL C0 Iv Iv_step Iv_0
set_option maxHeartbeats 4000000 in
theorem lw_walk (l : Launch) (hflags : l.flags = flags0) (b : Addr) (xs : List Int32) : MetFree l x (headSpec (Jvm.Cond.code x code maxLocals ret :: tables_1) room_1) (lw_P b xs) (fun _ _ _ _ _ => True) lw_Q := by
  refine MetFree.of_bodyS (code := code) (maxLocals := maxLocals) (ret := ret) (by decide) ?_ ?_
  · intro args s m h hn
    obtain ⟨meth, c, h1, h2, h3, h4, h5, h6, -, -⟩ := Cond.code_spec hn (atoms_spec (ws := Jvm.Cond.code x code maxLocals ret :: tables_1) h _ List.mem_cons_self)
    exact ⟨meth, c, h1, h2, h3, h4, h5, h6⟩
  · intro p e s m args below meth c s₁ B hml0 hP _
    obtain ⟨rfl, hx, hbd, hgv⟩ := hP
    obtain ⟨scr, harrAt, hlist, hof, hsmall⟩ := hx
    obtain ⟨hcb, hkn, -, -⟩ := State.arrayAt?_spec harrAt
    have hown : s.vm.findClass R_law = some m.cls := findClass_of_methodNamed B.named
    have hts0 : ∀ c ∈ (Jvm.Cond.code x code maxLocals ret :: tables_1), c.before #[Value.ref b] s = true := atoms_spec (ws := Jvm.Cond.code x code maxLocals ret :: tables_1) B.pre
    have hts : ∀ w ∈ lw_tbl, w.before #[Value.ref b] s = true := k2_hts_sels lw_privs (fun w hw => hts0 w (List.mem_cons_of_mem _ hw)) lw_privs_ok
    have hml : c.maxLocals = 7 := B.maxLocals_eq (hts0 _ List.mem_cons_self)
    have X₀ : Stand p l e room_1 s m #[Value.ref b] below meth c s₁ [] 0 0 := Stand.of_body B
    have hh0 : s₁.heap = s.heap := by rw [B.state]; rfl
    have hsz : scr.slots.size = xs.length := by rw [← Array.length_toList, hlist, List.length_map]
    have hval : ∀ j : Nat, j < xs.length → scr.slots[j]? = some (.int (xs.getD j 0)) := fun j hj => by
      rw [← Array.getElem?_toList, hlist]
      simp [hj]
    have hbl : b < s.heap.size := (Array.getElem?_eq_some_iff.mp hcb).1
    have hX : va_X b xs.length (fun j => xs.getD j 0) s s.heap := ⟨scr, hcb, hof, hkn, hsz, hval⟩
    have K : W p l e room_1 s m #[Value.ref b] below meth c s₁.heap [] 0 0 (lw_Z below #[Value.ref b] s) (entryFrame m ([Value.ref b] : List Value).toArray 7) := by
      rw [hh0]
      exact whole_start l hflags hbd ⟨B.exec, B.bytes, B.returns, hml, hown, hts, hX, hbl, B.notSynchronized, hgv⟩
    obtain ⟨t, a1, o, b1, b2, b3⟩ := K s₁ rfl X₀
    exact ⟨t, o, a1, b1, b2, b3⟩
theorem lw_pre_spec {args : Array Value} {s : State} (h : (Jvm.Cond.and given_1 narrow_1).before args s = true) (hr : rest_1_c.before args s = true) : ∃ (b : Addr) (xs : List Int32), lw_P b xs args s := by
  have hs := flat_of_before _ h
  have hq := flat_of_before _ hr
  have hc : (Cond.count 1).before args s = true := hs _ (by decide +kernel)
  have harr : (Cond.arrayOf (.arg 0) .int).before args s = true := hs _ (by decide +kernel)
  have hle : (Cond.le (.length (.arg 0)) (.int 3072)).before args s = true := hs _ (by decide +kernel)
  have hlen : (Cond.isInt (.length (.arg 0))).before args s = true := hq _ (by decide +kernel)
  have hall : (Cond.all (.arg 0) (.isInt (.elem (.arg 0) (.index 0)))).before args s = true := hq _ (by decide +kernel)
  obtain ⟨b, xs, hb, hx⟩ := State.ints_of_pre rfl harr hlen hall
  have hsm : xs.length < 2 ^ 31 := hx.choose_spec.2.2.2
  have hev : (Term.length (.arg 0)).eval args s none [] s = some (.int xs.length.toInt32) := hx.length_eval hb
  have hv := Cond.le_ints hev (show (Term.int 3072).eval args s none [] s = some (.int 3072) from rfl)
  have hd : xs.length.toInt32 ≤ 3072 := by
    simpa [Cond.before, Cond.holds, hv] using hle
  have hN : xs.length ≤ 3072 := (Int32.ofNat_le_ofNat hsm (by decide)).mp (show Int32.ofNat xs.length ≤ Int32.ofNat 3072 from hd)
  exact ⟨b, xs, Cond.one_arg hc (show args[0]? = some (.ref b) from hb), hx, hN, h⟩
theorem lw_comes (l : Launch) (hflags : l.flags = flags0) : Comes l x (Jvm.Cond.code x code maxLocals ret :: tables_1) room_1 (fun tb e args s => Calls_1 tb e args s ∧ rest_1 tb e args s ∧ Pre_1 tb e args s)
    (fun _ _ args s o t => lw_Q args s o t) := by
  intro p e ha hc hk s m args below hf hfit hheap happ hpre
  obtain ⟨b, xs, hP⟩ := lw_pre_spec hpre.2.2 hpre.2.1
  obtain ⟨k, o, h1, h2, h3, hQ⟩ := lw_walk l hflags b xs p e ha hc hk s m args below hf ((Spec.applies_iff_loose hf).mp happ).1 hP trivial
  exact ⟨k, o, h1, h2, h3, hQ⟩
theorem lw_frame {s t : State} {o : Outcome} {args : Array Value} (h : Framed s o t [] 601024 7293034) :
    Framed s o t (fieldLocs frame_1_writes args s ++ arrayLocs frame_1_arrays args s ++ staticLocs frame_1_statics s) 601024 7293034 := h
theorem lw_limb (L : Cond) (hL : ∀ (args : Array Value) (s t : State), L.after args s (.returned (some (.int 1))) t = true) :
    ArmFor flags0 classFile x code maxLocals ret World_1 tables_1 room_1 Calls_1 rest_1 Pre_1
      (fun tb e a s o t => postC L tb e a s o t ∧ Framed s o t (fieldLocs frame_1_writes a s ++ arrayLocs frame_1_arrays a s ++ staticLocs frame_1_statics s) 601024 7293034) := by
  intro l hflags _ _ p e ha hc hk s m args below hf hfit hheap happ hpre
  obtain ⟨k, o, h1, h2, h3, rfl, hF⟩ := lw_comes l hflags p e ha hc hk s m args below hf hfit hheap happ hpre
  exact ⟨k, _, h1, h2, h3, hL args s _, lw_frame hF⟩
theorem i_vc : Claimed_1_1 ∧ Claimed_1_2 := ⟨lw_limb limb_1_1 (fun args s t => by simp [limb_1_1, Cond.after, Cond.holds, Cond.value]), lw_limb limb_1_2 (fun args s t => Cond.after_iff.mpr (by
  first | (rw [show limb_1_2 = Cond.eq .result (.int 1) from rfl, Cond.eq_ints (x := 1) (y := 1) rfl rfl]; simp; done) | (simp [limb_1_2, Cond.value, Term.eval]; done)))⟩
