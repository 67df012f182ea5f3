/-! ===== rules of the pure walk: calls ===== -/
theorem lv_args_mem : ∀ (vs : List Value) (j i : Nat) (v : Value), (∀ w ∈ vs, w.category = 1) → vs[i]? = some v → (j + i, v) ∈ lv_args j vs := by
  intro vs
  induction vs with
  | nil => intro j i v _ h; simp at h
  | cons w ws ih =>
    intro j i v hc h
    have hw : ¬ w.category = 2 := by rw [hc w (by simp)]; decide
    unfold lv_args
    rw [if_neg hw]
    cases i with
    | zero => simp at h; subst h; simp
    | succ i =>
      have := ih (j + 1) i v (fun q hq => hc q (by simp [hq])) (by simpa using h)
      rw [show j + 1 + i = j + (i + 1) by omega] at this
      exact List.mem_cons_of_mem _ this
theorem lg_sl_len : ∀ (vs : List Value), (∀ w ∈ vs, w.category = 1) → (lg_sl vs).length = vs.length := by
  intro vs
  induction vs with
  | nil => intro _; rfl
  | cons w ws ih =>
    intro hc
    have hw : ¬ w.category = 2 := by rw [hc w (by simp)]; decide
    have := ih (fun q hq => hc q (by simp [hq]))
    simp only [lg_sl, List.flatMap_cons, if_neg hw, List.length_append, List.length_cons, List.length_nil] at this ⊢
    omega
theorem LV.entry (vs : List Value) {n : Nat} (hc : ∀ w ∈ vs, w.category = 1) (h : vs.length ≤ n) : LV ((lg_sl vs ++ List.replicate (n - (lg_sl vs).length) Slot.unset).toArray) n (vs ++ List.replicate (n - vs.length) (.retAddr 0)) := by
  obtain ⟨h1, h2, h3⟩ := lv_entry vs (n := n) (by rw [lg_sl_len vs hc]; exact h)
  refine ⟨h1, h2, by simp; omega, fun i v hi hv => ?_⟩
  by_cases hlt : i < vs.length
  · rw [List.getElem?_append_left hlt] at hi
    have := h3 (0 + i, v) (lv_args_mem vs 0 i v hc hi)
    rw [Nat.zero_add] at this
    exact ⟨hc v (List.mem_of_getElem? hi), this⟩
  · rw [List.getElem?_append_right (by omega)] at hi
    have := List.eq_of_mem_replicate (List.mem_of_getElem? hi)
    exact absurd this (hv 0)
/-- a method's code, by its word -/
def CW (M : MI) : Prop := (Cond.code M.1 M.2.1 M.2.2.1 M.2.2.2.1 ∈ lw_tbl ∧ M.2.2.2.2 = []) ∨ Cond.codeWith M.1 M.2.1 M.2.2.1 M.2.2.2.1 M.2.2.2.2 ∈ lw_tbl
theorem CW.spec {M : MI} {s : State} (h : CW M) (hT : TB s) : ∃ (mk : MethodId) (methk : Method) (ck : Code), s.methodNamed? M.1 = some mk ∧ s.vm.method? mk = some methk ∧ methk.code = some ck ∧ ck.code = M.2.1 ∧ ck.maxLocals = M.2.2.1 ∧ methk.sig.returnType = M.2.2.2.1 ∧ methk.locks = false ∧ ck.exceptionTable.toList.map (fun h => (h.startPc, h.endPc, h.handlerPc, h.catchType)) = M.2.2.2.2 ∧ parseMethodDescriptor M.1.desc = some methk.sig := by
  rcases h with ⟨h, he⟩ | h
  · have hc := hT _ h rfl #[]
    obtain ⟨mk, hn⟩ := Cond.code_named hc
    obtain ⟨methk, ck, h1, h2, h3, h4, h5, h6, h7, h8⟩ := Cond.code_spec hn hc
    refine ⟨mk, methk, ck, hn, h1, h2, h3, h4, h5, h6, ?_, h8⟩
    rw [he]
    simpa using h7
  · have hc := hT _ h rfl #[]
    obtain ⟨mk, methk, ck, hn, h1, h2, h3, h4, h7, h5, h6, h8⟩ := Cond.codeWith_spec hc
    exact ⟨mk, methk, ck, hn, h1, h2, h3, h4, h5, h6, h7, h8⟩
section Calls
variable {G : WG} {d : Nat} {M M' : MI} {p : Program} {l : Launch} {e : Env} {R : Room} {s : State} {m : MethodId} {args : Array Value} {below : List Frame} {meth : Method} {c : Code} {T : State} {locs : List Loc} {cells slots c0 s0 : Nat} {σ : PH} {K' : PO → PH → Prop}
/-- into the callee and out of it -/
theorem pcall (X : Stand p l e R s m args below meth c T locs cells slots) (hx : p.tables.exec = Jvm.exec) (hTB : TB s) (hKN : KN G s) (hGK : GK G) (hWs : G.2.2.2.WarmedH s.vm) (hfl : l.flags = flags0) (hR : Rep G σ s T.heap) (hL : ∀ q ∈ locs, G.1 ≤ q.base) (h1 : c0 + cells = cc σ) (h2 : s0 + slots = cs σ) (h3 : R.cells + c0 = 601024) (h4 : R.slots + s0 = 7293034) (hfr : d + 1 ≤ R.frames) (hlo : 37 * (d + 1) ≤ R.locals)
    {g : JFrame} (hg : g.method = m) (hmon : g.monitorRoom = 0) (hsize : g.locals.size = c.maxLocals) {ig : Instr} {len : Nat} (hdg : decode c.code g.pc = .ok (ig, len))
    {mk : MethodId} {methk : Method} {ck : Code} (hnk : s.methodNamed? M'.1 = some mk) (hmk : s.vm.method? mk = some methk) (hck : methk.code = some ck) (hbk : ck.code = M'.2.1) (hlk : ck.maxLocals = M'.2.2.1) (hrk : methk.sig.returnType = M'.2.2.2.1) (hkk : methk.locks = false) (hek : ck.exceptionTable.toList.map (fun h => (h.startPc, h.endPc, h.handlerPc, h.catchType)) = M'.2.2.2.2) (hpl : plainFor M'.1 = true)
    {vs : List Value} (hcat : ∀ v ∈ vs, v.category = 1) (hlen : vs.length ≤ M'.2.2.1) (hroom : (g.stack.map fun v => v.category).sum + M'.2.2.1 ≤ 26)
    (hP : PW d M' 0 (vs ++ List.replicate (M'.2.2.1 - vs.length) (.retAddr 0)) [] σ K') :
    ∃ (o : PO) (σ' : PH) (T' : State) (L : List Loc) (k n : Nat), K' o σ' ∧ Stand p l e R s m args below meth c T' (locs ++ L) (cells + k) (slots + n) ∧ (∀ q ∈ locs ++ L, G.1 ≤ q.base) ∧ c0 + (cells + k) = cc σ' ∧ s0 + (slots + n) = cs σ' ∧ Rep G σ' s T'.heap ∧
      match o with
      | .inl v => ∀ acts, Steps p.tables e below (doInvoke e (T.setTop g) acts mk vs.toArray).1 (T'.setTop { g with pc := g.pc + len, stack := v.toList ++ g.stack })
      | .inr kd => ∃ (a : Addr) (cell : Cell), T'.heap[a]? = some cell ∧ (∀ z, cell.vm ≠ .statics z) ∧ s.vm.findClass (exN kd) = some cell.cls ∧ ∀ acts, Steps p.tables e below (doInvoke e (T.setTop g) acts mk vs.toArray).1 ((T'.setTop g).pushFrame (.throwing a)) := by
  have hal : s.vm.Alike T.vm := X.warmed.alike
  have hmkT : T.vm.method? mk = some methk := by rw [hal.method?]; exact hmk
  have hnT : T.methodNamed? M'.1 = some mk := X.named hnk
  have hpT : T.plainMethod mk := State.plainMethod.of_named hpl hnT hmkT
  have hcc := hR.2.2.2
  obtain ⟨Y, hin⟩ := X.into hg hsize hdg vs.toArray (R' := { frames := d, cells := R.cells - cells, slots := R.slots - slots, locals := 37 * d }) hmkT hck hkk hpT hfr (by show 2 * g.monitorRoom + _ + (ck.maxLocals + 11) + 37 * d ≤ R.locals; rw [hmon, hlk]; omega) (by show cells + (R.cells - cells) ≤ R.cells; omega) (by show slots + (R.slots - slots) ≤ R.slots; omega)
  generalize hU : (T.setTop g).pushFrame (.java (entryFrame mk vs.toArray ck.maxLocals)) = U at Y hin
  have hUh : U.heap = T.heap := by rw [← hU]; rfl
  have hWc : s.WarmedH (T.calling g mk vs.toArray).vm := X.warmed
  have hCtx : Ctx G d M' p l { frames := d, cells := R.cells - cells, slots := R.slots - slots, locals := 37 * d } (T.calling g mk vs.toArray) mk methk ck :=
    ⟨hx, hbk, hlk, hrk, hkk, hnT, Nat.le_refl _, Nat.le_refl _, hTB.moved hWc, hKN.moved hal, hmkT, hek, hGK, State.WarmedH.trans hWs hWc, hfl⟩
  obtain ⟨t, hst, o, σ', x, L, k, n, hK, hrun, hend, hW, hsame, hLb, hk1, hk2, hRep, hO⟩ := hP G p l e _ (T.calling g mk vs.toArray) mk vs.toArray (.java g :: below) methk ck T.heap [] 0 0 _ (c0 + cells) (s0 + slots) hCtx (hR.moved hal) (LV.entry vs hcat hlen) (fun q hq => by simp at hq) (by omega) (by omega) (by show R.cells - cells + (c0 + cells) = _; omega) (by show R.slots - slots + (s0 + slots) = _; omega) U hUh Y
  have hLL : ∀ q ∈ locs ++ L, G.1 ≤ q.base := fun q hq => (List.mem_append.mp hq).elim (hL q) (hLb q)
  rw [← lg_entry_eq, ← hlk] at hst
  have hst2 := Steps.weaken (mid := [.java g]) hst
  cases o with
  | inl v =>
    have hxe : x = .returned v := hO
    subst hxe
    obtain ⟨T', X', hW', hB', ht⟩ := X.outOf hg hdg hend hW hsame
    have hh : t.heap = T'.heap := by rw [ht]; simp
    refine ⟨.inl v, σ', T', L, k, n, hK, X', hLL, by omega, by omega, ?_, fun acts => ?_⟩
    · rw [← hh]
      exact hRep.moved (u := T.calling g mk vs.toArray) (Vm.Alike.symm hal)
    · rw [hin acts, ← ht]
      exact hst2
  | inr kd =>
    obtain ⟨a, cell, hxe, q1, q2, q3⟩ := hO
    subst hxe
    obtain ⟨T', X', hW', hB', ht⟩ := X.outOfThrown hg hend hW hsame
    have hh : t.heap = T'.heap := by rw [ht]; exact throwing_heap T' g a
    refine ⟨.inr kd, σ', T', L, k, n, hK, X', hLL, by omega, by omega, ?_, a, cell, by rw [← hh]; exact q1, q2, ?_, fun acts => ?_⟩
    · rw [← hh]
      exact hRep.moved (u := T.calling g mk vs.toArray) (Vm.Alike.symm hal)
    · rw [← hal.findClass]; exact q3
    · rw [hin acts, ← ht]
      exact hst2
end Calls
