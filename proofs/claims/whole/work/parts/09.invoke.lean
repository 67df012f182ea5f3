/-! ===== rules of the pure walk: the call instructions ===== -/
/-- behind a call, in a method without handlers -/
def kN (d : Nat) (M : MI) (pc : Nat) (ls st : List Value) (K : PO → PH → Prop) : PO → PH → Prop := fun o σ => match o with
  | .inl v => PW d M pc ls (v.toList ++ st) σ K
  | .inr k => K (.inr k) σ
/-- what every call asks of its callee -/
def CQ (M' : MI) (n : Nat) : Prop := CW M' ∧ Cond.initialized M'.1.cls ∈ lw_tbl ∧ (M'.1.cls ≠ "java/lang/invoke/MethodHandle" ∧ M'.1.cls ≠ "java/lang/invoke/VarHandle") ∧ plainFor M'.1 = true ∧ (parseMethodDescriptor M'.1.desc).map (fun d => d.parameters.length) = some n ∧ n + 1 ≤ M'.2.2.1 + 1 ∧ M'.2.2.1 ≤ 18
theorem CQ.len {M' : MI} {n : Nat} (h : CQ M' n) {sig : MethodDescriptor} (hs : parseMethodDescriptor M'.1.desc = some sig) : n = sig.parameters.length := by
  have h5 := h.2.2.2.2.1
  rw [hs] at h5
  simpa using h5.symm
section Invoke
variable {d : Nat} {M M' : MI} {pc i n : Nat} {ls st vs : List Value} {σ : PH} {K : PO → PH → Prop}
/-- behind a resolved call, either way: no handler -/
theorem after_call {G : WG} {p : Program} {l : Launch} {e : Env} {R : Room} {s : State} {m : MethodId} {args : Array Value} {below : List Frame} {meth : Method} {c : Code} {T T1 : State} {locs : List Loc} {cells slots c0 s0 : Nat} {A : Array Slot} {stk : List Value} {mk : MethodId} {vl : List Value} (hh : M.2.2.2.2 = []) (hC : Ctx G (d + 1) M p l R s m meth c) (hA : LV A M.2.2.1 ls) (h3 : R.cells + c0 = 601024) (h4 : R.slots + s0 = 7293034)
    (hstep : ∀ target, (∀ acts, Steps p.tables e below (doInvoke e (T1.setTop (F0 m pc A st)) acts mk vl.toArray).1 target) → Steps p.tables e below (T.setTop (F0 m pc A stk)) target)
    (hp : ∃ (o : PO) (σ' : PH) (T' : State) (L : List Loc) (k n : Nat), kN (d + 1) M (pc + 3) ls st K o σ' ∧ Stand p l e R s m args below meth c T' (locs ++ L) (cells + k) (slots + n) ∧ (∀ q ∈ locs ++ L, G.1 ≤ q.base) ∧ c0 + (cells + k) = cc σ' ∧ s0 + (slots + n) = cs σ' ∧ Rep G σ' s T'.heap ∧
      match o with
      | .inl v => ∀ acts, Steps p.tables e below (doInvoke e (T1.setTop (F0 m pc A st)) acts mk vl.toArray).1 (T'.setTop { (F0 m pc A st) with pc := (F0 m pc A st).pc + 3, stack := v.toList ++ (F0 m pc A st).stack })
      | .inr kd => ∃ (a : Addr) (cell : Cell), T'.heap[a]? = some cell ∧ (∀ z, cell.vm ≠ .statics z) ∧ s.vm.findClass (exN kd) = some cell.cls ∧ ∀ acts, Steps p.tables e below (doInvoke e (T1.setTop (F0 m pc A st)) acts mk vl.toArray).1 ((T'.setTop (F0 m pc A st)).pushFrame (.throwing a))) :
    ∃ t, Steps p.tables e below (T.setTop (F0 m pc A stk)) t ∧ EQ G K below s c0 s0 t := by
  obtain ⟨o, σ', T', L, k, n, hK, X', hLL, g1, g2, hRep, hgo⟩ := hp
  cases o with
  | inl v =>
    obtain ⟨t, a1, b1⟩ := hK G p l e R s m args below meth c T'.heap (locs ++ L) (cells + k) (slots + n) A c0 s0 hC hRep hA hLL g1 g2 h3 h4 T' rfl X'
    exact ⟨t, hstep t (fun acts => (hgo acts).trans a1), b1⟩
  | inr kd =>
    obtain ⟨a, cell, q1, q2, q3, hgo⟩ := hgo
    have hlocks := hC.2.2.2.2.1
    have hex := hC.2.2.2.2.2.2.2.2.2.2.2.1
    rw [hh] at hex
    obtain ⟨hs, hrun, hended, hW, hframe⟩ := X'.leaveThrown a (g := F0 m pc A st) rfl rfl rfl (fun x hx => by rw [List.map_eq_nil_iff.mp hex] at hx; cases hx)
    exact ⟨_, hstep _ (fun acts => (hgo acts).trans hs), .inr kd, σ', .threw a, locs ++ L, cells + k, slots + n, hK, hrun, hended, hW, hframe, hLL, g1, g2, hRep, a, cell, rfl, q1, q2, q3⟩
theorem pw_callS (hd : decode M.2.1 pc = .ok (.invokestatic i, 3)) (hq : CQ M' n) (hs : Cond.static M'.1 ∈ lw_tbl) (hl : Cond.methodLink M.1.cls i M'.1 ∈ lw_tbl) (hh : M.2.2.2.2 = []) (hn : vs.length = n) (hcat : ∀ v ∈ vs, v.category = 1) (hst : (st.map fun v => v.category).sum ≤ 8)
    (h : PW d M' 0 (vs ++ List.replicate (M'.2.2.1 - vs.length) (.retAddr 0)) [] σ (kN (d + 1) M (pc + 3) ls st K)) : PW (d + 1) M pc ls (vs.reverse ++ st) σ K := by
  intro G p l e R s m args below meth c H locs cells slots A c0 s0 hC hR hA hL h1 h2 h3 h4
  intro T hT X
  subst hT
  obtain ⟨hx, hb, hml, hret, hlocks, hnm, hfr, hlo, hTB, hKN, hmm, hex, hGK, hWs, hfl⟩ := id hC
  obtain ⟨mk, methk, ck, r1, r2, r3, r4, r5, r6, r7, r8, r9⟩ := hq.1.spec hTB
  obtain ⟨kP, hkP, -⟩ := className_of_methodNamed r1
  have hinitP : kP.init = .initialized := Cond.initialized_spec (findClass_of_methodNamed r1) hkP (hTB _ hq.2.1 rfl args)
  obtain ⟨vm₁, X₁, hstep⟩ := X.invokestatic hx (findClass_of_methodNamed hnm) (hTB _ hl rfl args) r1 r2 (Cond.static_spec r1 r2 (hTB _ hs rfl args)) hkP hinitP hq.2.2.1 (g := F0 m pc A (vs.reverse ++ st)) rfl (argsL := vs) (rest := st) (hn.trans (hq.len r9)) rfl (by rw [hb]; exact hd)
  exact after_call hh hC hA h3 h4 hstep (pcall X₁ hx hTB hKN hGK hWs hfl hR hL h1 h2 h3 h4 hfr hlo (g := F0 m pc A st) rfl rfl (hA.1.trans hml.symm) (ig := .invokestatic i) (by rw [hb]; exact hd) r1 r2 r3 r4 r5 r6 r7 r8 hq.2.2.2.1 hcat (by have := hq.2.2.2.2.2.1; omega) (by have := hq.2.2.2.2.2.2; show (st.map _).sum + _ ≤ 26; omega) h)
theorem pw_callV {b cn : Nat} (hd : decode M.2.1 pc = .ok (.invokevirtual i, 3)) (hq : CQ M' n) (hi : Cond.instanceMethod M'.1 ∈ lw_tbl) (hse : Cond.selects M'.1.cls M'.1 M'.1 ∈ lw_tbl) (hl : Cond.methodLink M.1.cls i M'.1 ∈ lw_tbl) (hcn : clN cn = M'.1.cls) (hb0 : sh σ b = (1, cn)) (hh : M.2.2.2.2 = []) (hn : vs.length = n) (hlt : n + 1 ≤ M'.2.2.1) (hcat : ∀ v ∈ vs, v.category = 1) (hst : (st.map fun v => v.category).sum ≤ 8)
    (h : PW d M' 0 (.ref b :: vs ++ List.replicate (M'.2.2.1 - (vs.length + 1)) (.retAddr 0)) [] σ (kN (d + 1) M (pc + 3) ls st K)) : PW (d + 1) M pc ls (vs.reverse ++ .ref b :: st) σ K := by
  intro G p l e R s m args below meth c H locs cells slots A c0 s0 hC hR hA hL h1 h2 h3 h4
  intro T hT X
  subst hT
  obtain ⟨hx, hb, hml, hret, hlocks, hnm, hfr, hlo, hTB, hKN, hmm, hex, hGK, hWs, hfl⟩ := id hC
  obtain ⟨mk, methk, ck, r1, r2, r3, r4, r5, r6, r7, r8, r9⟩ := hq.1.spec hTB
  obtain ⟨mk', methM, hnamed, hmethM, hstM, habM⟩ := Cond.instanceMethod_spec (hTB _ hi rfl args)
  cases r1.symm.trans hnamed
  cases r2.symm.trans hmethM
  obtain ⟨-, hcl, cellB, z1, z2, z3, -⟩ := (hR.1 b).obj hb0
  have hcls : s.vm.findClass M'.1.cls = some cellB.cls := by rw [z2, ← hcn]; exact (hKN cn hcl).2.1
  obtain ⟨c2, r2', m2, q1, q2, q3, q4, kP, hkP, hkPi⟩ := Cond.selects_spec (hTB _ hse rfl args)
  cases hcls.symm.trans q1
  cases (State.methodFound?_of_named hnamed hq.2.2.1).symm.trans q2
  cases hnamed.symm.trans q3
  have hselP : selectMethod e.platform s.vm cellB.cls mk = .method mk := by rw [Launch.admits_selectMethod X.admits]; exact q4
  obtain ⟨vm₁, X₁, hstep⟩ := X.invokevirtual hx (findClass_of_methodNamed hnm) (hTB _ hl rfl args) r1 r2 hstM hkP hkPi hq.2.2.1 (a := b) (cell := cellB) z1 (fun z h => by rw [z3] at h; cases h) hselP r2 habM hkP hkPi (g := F0 m pc A (vs.reverse ++ .ref b :: st)) rfl (argsL := vs) (rest := st) (hn.trans (hq.len r9)) rfl (by rw [hb]; exact hd)
  exact after_call hh hC hA h3 h4 hstep (pcall (vs := .ref b :: vs) X₁ hx hTB hKN hGK hWs hfl hR hL h1 h2 h3 h4 hfr hlo (g := F0 m pc A st) rfl rfl (hA.1.trans hml.symm) (ig := .invokevirtual i) (by rw [hb]; exact hd) r1 r2 r3 r4 r5 r6 r7 r8 hq.2.2.2.1 (fun v hv => by rcases List.mem_cons.mp hv with rfl | hv; exact rfl; exact hcat v hv) (by simp; omega) (by have := hq.2.2.2.2.2.2; show (st.map _).sum + _ ≤ 26; omega) h)
theorem pw_callI {b : Nat} (hd : decode M.2.1 pc = .ok (.invokespecial i, 3)) (hq : CQ M' n) (hini : M'.1.name = "<init>") (hrt : M'.2.2.2.1 = none) (hcd : Cond.code M'.1 M'.2.1 M'.2.2.1 none ∈ lw_tbl) (hi : Cond.instanceMethod M'.1 ∈ lw_tbl) (hl : Cond.methodLink M.1.cls i M'.1 ∈ lw_tbl ∨ ∃ host : String, Cond.methodLinkNest M.1.cls i M'.1 host ∈ lw_tbl) (hh : M.2.2.2.2 = []) (hn : vs.length = n) (hlt : n + 1 ≤ M'.2.2.1) (hcat : ∀ v ∈ vs, v.category = 1) (hst : (st.map fun v => v.category).sum ≤ 8)
    (h : PW d M' 0 (.ref b :: vs ++ List.replicate (M'.2.2.1 - (vs.length + 1)) (.retAddr 0)) [] σ (kN (d + 1) M (pc + 3) ls st K)) : PW (d + 1) M pc ls (vs.reverse ++ .ref b :: st) σ K := by
  intro G p l e R s m args below meth c H locs cells slots A c0 s0 hC hR hA hL h1 h2 h3 h4
  intro T hT X
  subst hT
  obtain ⟨hx, hb, hml, hret, hlocks, hnm, hfr, hlo, hTB, hKN, hmm, hex, hGK, hWs, hfl⟩ := id hC
  obtain ⟨mk, methk, ck, r1, r2, r3, r4, r5, r6, r7, r8, r9⟩ := hq.1.spec hTB
  have hpl : e.platform.magicAccessors = ({} : Platform).magicAccessors := by rw [X.admits.platform]
  have key : ∃ vm₁, s.WarmedH vm₁ ∧ ∀ target, (∀ acts, Steps p.tables e below (doInvoke e ((T.setVm vm₁).setTop (F0 m pc A st)) acts mk (Value.ref b :: vs).toArray).1 target) → Steps p.tables e below (T.setTop (F0 m pc A (vs.reverse ++ .ref b :: st))) target := by
    rcases hl with hl | ⟨host, hl⟩
    · obtain ⟨mk', methM, cM, kP, vm₁, hnamed, hmethM, hcodeM, -, hlocalsM, -, hkP, -, hW₁, hstep₁⟩ := Steps.initColdArgs (e := e) X.here hx X.warmed hpl (findClass_of_methodNamed hnm) hini hq.2.2.1 (hTB _ hl rfl args) (hTB _ hi rfl args) (hTB _ hcd rfl args) (f := F0 m pc A (vs.reverse ++ .ref b :: st)) rfl (a := b) (argsL := vs) (rest := st) (fun sig hs => hn.trans (hq.len hs)) rfl (by rw [hb]; exact hd)
      cases r1.symm.trans hnamed
      exact ⟨vm₁, hW₁, hstep₁⟩
    · obtain ⟨mk', methM, cM, kP, vm₁, hnamed, hmethM, hcodeM, -, hlocalsM, -, hkP, -, hW₁, hstep₁⟩ := Steps.initColdArgsNest (e := e) X.here hx X.warmed hpl (findClass_of_methodNamed hnm) hini hq.2.2.1 (hTB _ hl rfl args) (hTB _ hi rfl args) (hTB _ hcd rfl args) (f := F0 m pc A (vs.reverse ++ .ref b :: st)) rfl (a := b) (argsL := vs) (rest := st) (fun sig hs => hn.trans (hq.len hs)) rfl (by rw [hb]; exact hd)
      cases r1.symm.trans hnamed
      exact ⟨vm₁, hW₁, hstep₁⟩
  obtain ⟨vm₁, hW₁, hstep⟩ := key
  have X₁ := X.noted hW₁
  exact after_call hh hC hA h3 h4 hstep (pcall (vs := .ref b :: vs) X₁ hx hTB hKN hGK hWs hfl hR hL h1 h2 h3 h4 hfr hlo (g := F0 m pc A st) rfl rfl (hA.1.trans hml.symm) (ig := .invokespecial i) (by rw [hb]; exact hd) r1 r2 r3 r4 r5 r6 r7 r8 hq.2.2.2.1 (fun v hv => by rcases List.mem_cons.mp hv with rfl | hv; exact rfl; exact hcat v hv) (by simp; omega) (by have := hq.2.2.2.2.2.2; show (st.map _).sum + _ ≤ 26; omega) h)
end Invoke
