/-! ===== rules of the pure walk: the text constant, statics ===== -/
section Text
variable {d : Nat} {M M' : MI} {pc i n : Nat} {ls st vs : List Value} {σ : PH} {K : PO → PH → Prop}
theorem pw_ldcT (hd : decode M.2.1 pc = .ok (.ldc 9, 2)) (hM : M.1.cls = "RelayDesk$Signs") (h : ∀ a v : Nat, sh σ a = (0, 1) → gR σ 9000 a = some v → sh σ v = (11, 21) → (∀ j, j < 21 → eI σ v j = figB j) → PW d M (pc + 2) ls (.ref a :: st) σ K) : PW d M pc ls st σ K := by
  intro G p l e R s m args below meth c H locs cells slots A c0 s0 hC hR hA hL h1 h2 h3 h4
  obtain ⟨a, v, q1, q2, q3, q4, q5, q6, q7⟩ := hR.2.2.2.2.2.2
  have hk := h a v q4 q5 q6 q7 G p l e R s m args below meth c H locs cells slots A c0 s0 hC hR hA hL h1 h2 h3 h4
  obtain ⟨hx, hb, hml, hret, hlocks, hnm, hfr, hlo, hTB, hKN, hmm, hex, hGK, hWs, hfl⟩ := hC
  obtain ⟨b0, hnar, htb0⟩ := hGK.2
  have hw : (Cond.stringRef "RelayDesk$Signs" 9 "0123456789.,-/()?:'+=").before #[Value.ref b0] G.2.2.2 = true := htb0 _ (List.mem_of_getElem? (i := 473) (by decide +kernel))
  have hZ : vk_R "RelayDesk$Signs" 9 "0123456789.,-/()?:'+=" a s := vk_R.warm hWs (vk_R.of (A := #[]) hw q1)
  exact va_ldcS hx hb (by rw [← hM]; exact findClass_of_methodNamed hnm) hZ hd hk
theorem pw_sval {a : Nat} (hd : decode M.2.1 pc = .ok (.getfield i, 3)) (hl : Cond.fieldLink M.1.cls i "java/lang/String" "value" "[B" ∈ lw_tbl) (hs : sh σ a = (0, 1)) (h : PW d M (pc + 3) ls (va_rf (gR σ 9000 a) :: st) σ K) : PW d M pc ls (.ref a :: st) σ K := by
  intro G p l e R s m args below meth c H locs cells slots A c0 s0 hC hR hA hL h1 h2 h3 h4
  have hk := h G p l e R s m args below meth c H locs cells slots A c0 s0 hC hR hA hL h1 h2 h3 h4
  obtain ⟨hx, hb, hml, hret, hlocks, hnm, hfr, hlo, hTB, hKN, hmm, hex, hGK, hWs, hfl⟩ := hC
  have hra := hR.1 a
  unfold RA at hra
  rw [hs] at hra
  obtain ⟨-, cell, q1, q2, q3, q4, -, cf, k, fi, f, q5, q6, q7⟩ := hra rfl
  exact W.getf hx hb (findClass_of_methodNamed hnm) (hTB _ hl rfl args) q5 q6 q1 q3 q7 rfl rfl hd hk
theorem pw_scod {a : Nat} (hd : decode M.2.1 pc = .ok (.getfield i, 3)) (hl : Cond.fieldLink M.1.cls i "java/lang/String" "coder" "B" ∈ lw_tbl) (hs : sh σ a = (0, 1)) (h : PW d M (pc + 3) ls (.int 0 :: st) σ K) : PW d M pc ls (.ref a :: st) σ K := by
  intro G p l e R s m args below meth c H locs cells slots A c0 s0 hC hR hA hL h1 h2 h3 h4
  have hk := h G p l e R s m args below meth c H locs cells slots A c0 s0 hC hR hA hL h1 h2 h3 h4
  obtain ⟨hx, hb, hml, hret, hlocks, hnm, hfr, hlo, hTB, hKN, hmm, hex, hGK, hWs, hfl⟩ := hC
  have hra := hR.1 a
  unfold RA at hra
  rw [hs] at hra
  obtain ⟨-, cell, q1, q2, q3, q4, ⟨cf, k, fi, f, q5, q6, q7⟩, -⟩ := hra rfl
  exact W.getf hx hb (findClass_of_methodNamed hnm) (hTB _ hl rfl args) q5 q6 q1 q3 q7 rfl rfl hd hk
theorem pw_bald {a n : Nat} {j : Int32} (hd : decode M.2.1 pc = .ok (.baload, 1)) (hs : sh σ a = (11, n)) (hin : vp_in j n) (h : PW d M (pc + 1) ls (.int (eI σ a (ix j)) :: st) σ K) : PW d M pc ls (.int j :: .ref a :: st) σ K :=
  pw_ald hs (by decide) hin rfl (fun p l e R s m args below meth cd H locs cells slots Q A cell hx hb h1 h2 h3 h4 h5 kk => W.bald hx hb h1 h2 h3 h4 h5 rfl rfl hd kk) h
theorem pw_i2b {x : Int32} (hd : decode M.2.1 pc = .ok (.i2b, 1)) (h : PW d M (pc + 1) ls (.int x.toInt8.toInt32 :: st) σ K) : PW d M pc ls (.int x :: st) σ K := by
  refine PW.ss ?_ h
  intro p l e R s m args below meth c H locs cells slots Q A hx hb ho ht hA kk
  exact lv_i2b hx hb hd rfl (kk A hA)
/-- a static as the start has it -/
theorem stat_at {G : WG} {s : State} {C nm ds : String} {v : Value} (hGK : GK G) (hWs : G.2.2.2.WarmedH s.vm) (hl : Cond.laysStatic C nm ds ∈ lw_tbl) (hi : Cond.initialized C ∈ lw_tbl) (hv : ∀ b : Nat, (Jvm.Cond.and given_1 narrow_1).before #[Value.ref b] G.2.2.2 = true → (Term.static C nm ds).eval #[Value.ref b] G.2.2.2 none [] G.2.2.2 = some v) :
    va_Z C nm ds v (fun q => G.1 ≤ q) s G.2.2.2.heap := by
  obtain ⟨b0, hnar, htb0⟩ := hGK.2
  exact (va_Zof (A := fun q => G.1 ≤ q) (htb0 _ hl) (htb0 _ hi) (hv b0 hnar) (fun a ha => by show ¬ G.1 ≤ a; rw [hGK.1]; omega)).moved hWs.alike
theorem pw_gets {C nm ds : String} {v : Value} (hd : decode M.2.1 pc = .ok (.getstatic i, 3)) (hl : Cond.laysStatic C nm ds ∈ lw_tbl) (hi : Cond.initialized C ∈ lw_tbl) (hk : Cond.fieldLink M.1.cls i C nm ds ∈ lw_tbl)
    (hv : ∀ (b : Nat) (s0 : State), (Jvm.Cond.and given_1 narrow_1).before #[Value.ref b] s0 = true → (Term.static C nm ds).eval #[Value.ref b] s0 none [] s0 = some v) (h : PW d M (pc + 3) ls (v :: st) σ K) : PW d M pc ls st σ K := by
  intro G p l e R s m args below meth c H locs cells slots A c0 s0 hC hR hA hL h1 h2 h3 h4
  have hkk := h G p l e R s m args below meth c H locs cells slots A c0 s0 hC hR hA hL h1 h2 h3 h4
  obtain ⟨hx, hb, hml, hret, hlocks, hnm, hfr, hlo, hTB, hKN, hmm, hex, hGK, hWs, hfl⟩ := hC
  obtain ⟨cf, kf, fi, f, a, cell, q1, q2, q3, q4, q5, q6, q7, q8⟩ := stat_at hGK hWs hl hi (fun b hb => hv b _ hb)
  have q8' : a < G.1 := Nat.not_le.mp q8
  exact W.gets hx hb (findClass_of_methodNamed hnm) (hTB _ hk rfl args) q1 q2 q3 q4 (by rw [hR.2.2.2.2.2.1 a q8']; exact q5) (fun e => by rw [e] at q6; cases q6) q7 rfl hd hkk
theorem pw_getsQ {C nm ds : String} (hd : decode M.2.1 pc = .ok (.getstatic i, 3)) (hl : Cond.laysStatic C nm ds ∈ lw_tbl) (hi : Cond.initialized C ∈ lw_tbl) (hk : Cond.fieldLink M.1.cls i C nm ds ∈ lw_tbl)
    (hr : Cond.isRef (.static C nm ds) ∈ flatC (Jvm.Cond.and given_1 narrow_1)) (h : ∀ o : Option Nat, PW d M (pc + 3) ls (va_rf o :: st) σ K) : PW d M pc ls st σ K := by
  intro G p l e R s m args below meth c H locs cells slots A c0 s0 hC hR hA hL h1 h2 h3 h4
  have hkk := fun o => h o G p l e R s m args below meth c H locs cells slots A c0 s0 hC hR hA hL h1 h2 h3 h4
  obtain ⟨hx, hb, hml, hret, hlocks, hnm, hfr, hlo, hTB, hKN, hmm, hex, hGK, hWs, hfl⟩ := hC
  obtain ⟨b0, hnar, htb0⟩ := hGK.2
  have hz := va_Zqof (A := fun q => G.1 ≤ q) (htb0 _ hl) (htb0 _ hi) (flat_of_before _ hnar _ hr) (fun a ha => by show ¬ G.1 ≤ a; rw [hGK.1]; omega)
  have key : ∃ o : Option Nat, va_Z C nm ds (va_rf o) (fun q => G.1 ≤ q) s G.2.2.2.heap := by
    rcases hz with hz | ⟨t, hz⟩
    · exact ⟨none, hz.moved hWs.alike⟩
    · exact ⟨some t, hz.moved hWs.alike⟩
  obtain ⟨o, cf, kf, fi, f, a, cell, q1, q2, q3, q4, q5, q6, q7, q8⟩ := key
  have q8' : a < G.1 := Nat.not_le.mp q8
  exact W.gets hx hb (findClass_of_methodNamed hnm) (hTB _ hk rfl args) q1 q2 q3 q4 (by rw [hR.2.2.2.2.2.1 a q8']; exact q5) (fun e => by rw [e] at q6; cases q6) q7 rfl hd (hkk o)
theorem pw_callVS {b : Nat} (hd : decode M.2.1 pc = .ok (.invokevirtual i, 3)) (hq : CQ M' n) (hi : Cond.instanceMethod M'.1 ∈ lw_tbl) (hse : Cond.selects M'.1.cls M'.1 M'.1 ∈ lw_tbl) (hl : Cond.methodLink M.1.cls i M'.1 ∈ lw_tbl) (hcn : "java/lang/String" = M'.1.cls) (hb0 : sh σ b = (0, 1)) (hh : M.2.2.2.2 = []) (hn : vs.length = n) (hlt : n + 1 ≤ M'.2.2.1) (hcat : ∀ v ∈ vs, v.category = 1) (hst : (st.map fun v => v.category).sum ≤ 8)
    (h : PW d M' 0 (.ref b :: vs ++ List.replicate (M'.2.2.1 - (vs.length + 1)) (.retAddr 0)) [] σ (kN (d + 1) M (pc + 3) ls st K)) : PW (d + 1) M pc ls (vs.reverse ++ .ref b :: st) σ K := by
  intro G p l e R s m args below meth c H locs cells slots A c0 s0 hC hR hA hL h1 h2 h3 h4
  intro T hT X
  subst hT
  obtain ⟨hx, hb, hml, hret, hlocks, hnm, hfr, hlo, hTB, hKN, hmm, hex, hGK, hWs, hfl⟩ := id hC
  obtain ⟨mk, methk, ck, r1, r2, r3, r4, r5, r6, r7, r8, r9⟩ := hq.1.spec hTB
  obtain ⟨mk', methM, hnamed, hmethM, hstM, habM⟩ := Cond.instanceMethod_spec (hTB _ hi rfl args)
  cases r1.symm.trans hnamed
  cases r2.symm.trans hmethM
  have hra := hR.1 b
  unfold RA at hra
  rw [hb0] at hra
  obtain ⟨-, cellB, z1, z2, z3, z4, -⟩ := hra rfl
  have hcls : s.vm.findClass M'.1.cls = some cellB.cls := by rw [← hcn]; exact z4
  obtain ⟨c2, r2', m2, q1, q2, q3, q4, kP, hkP, hkPi⟩ := Cond.selects_spec (hTB _ hse rfl args)
  cases hcls.symm.trans q1
  cases (State.methodFound?_of_named hnamed hq.2.2.1).symm.trans q2
  cases hnamed.symm.trans q3
  have hselP : selectMethod e.platform s.vm cellB.cls mk = .method mk := by rw [Launch.admits_selectMethod X.admits]; exact q4
  obtain ⟨vm₁, X₁, hstep⟩ := X.invokevirtual hx (findClass_of_methodNamed hnm) (hTB _ hl rfl args) r1 r2 hstM hkP hkPi hq.2.2.1 (a := b) (cell := cellB) z1 (fun z h => by rw [h] at z2; cases z2) hselP r2 habM hkP hkPi (g := F0 m pc A (vs.reverse ++ .ref b :: st)) rfl (argsL := vs) (rest := st) (hn.trans (hq.len r9)) rfl (by rw [hb]; exact hd)
  exact after_call hh hC hA h3 h4 hstep (pcall (vs := .ref b :: vs) X₁ hx hTB hKN hGK hWs hfl hR hL h1 h2 h3 h4 hfr hlo (g := F0 m pc A st) rfl rfl (hA.1.trans hml.symm) (ig := .invokevirtual i) (by rw [hb]; exact hd) r1 r2 r3 r4 r5 r6 r7 r8 hq.2.2.2.1 (fun v hv => by rcases List.mem_cons.mp hv with rfl | hv; exact rfl; exact hcat v hv) (by simp; omega) (by have := hq.2.2.2.2.2.2; show (st.map _).sum + _ ≤ 26; omega) h)
end Text
