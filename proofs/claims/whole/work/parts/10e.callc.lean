/-! ===== a call whose exceptions the method catches ===== -/
section Catch
variable {p : Program} {l : Launch} {e : Env} {R : Room} {s : State} {m : MethodId} {args : Array Value} {below : List Frame} {meth : Method} {c : Code} {T : State} {locs : List Loc} {cells slots : Nat}
/-- an entry's class by its word: linked wherever the tables have come to, and noted rightly -/
theorem link_any {own name : String} {i : Nat} {cT : ClassId} {V : Vm} (hpl : e.platform.magicAccessors = ({} : Platform).magicAccessors) (hown : s.vm.findClass own = some m.cls) (hlink : (Cond.classLink own i name).before args s = true) (hcT : s.vm.findClass name = some cT) (hW : s.WarmedH V) :
    V.ClassLinks e.platform m.cls i cT ∧ s.WarmedH (V.noted m.cls i (.cls cT)) ∧ ∃ k, V.classes[cT]? = some k := by
  obtain ⟨c', hc', hcl⟩ := Cond.classLink_spec hown hlink e.platform hpl
  cases hcT.symm.trans hc'
  obtain ⟨dk, _, _, kt, hd, _, _, _, _, hkt, _, hopen⟩ := hcl.here
  obtain ⟨kt', hkt', -⟩ := hW.alike.2.2 _ _ hkt
  exact ⟨hW.classLinks hcl, hW.noted hd hopen (State.rightAt_cls hcl), kt', hkt'⟩
/-- one handler, and the exception is of its class -/
theorem hunt1 (X : Stand p l e R s m args below meth c T locs cells slots) {g : JFrame} (hg : g.method = m) {own name : String} (hown : s.vm.findClass own = some m.cls) {x : ExceptionTableEntry} {rest : List ExceptionTableEntry} (hsplit : c.exceptionTable.toList = x :: rest) (hx : covers x g.pc = true) (h0 : x.catchType ≠ 0)
    (hlink : (Cond.classLink own x.catchType name).before args s = true) {a : Addr} {cell : Cell} (hcT : s.vm.findClass name = some cell.cls) (hcell : T.heap[a]? = some cell) (hobj : ∀ z, cell.vm ≠ .statics z) (hfit : s.vm.assignable cell.cls cell.cls = true) :
    ∃ vm', s.WarmedH vm' ∧ Hunt e ((T.setTop g).pushFrame (.throwing a)) g a (.found x.handlerPc) vm' := by
  have hpl : e.platform.magicAccessors = ({} : Platform).magicAccessors := by rw [X.admits.platform]
  obtain ⟨q1, q2, q3⟩ := link_any (e := e) hpl hown hlink hcT X.warmed
  subst hg
  refine ⟨_, q2, fun Q E d acts => ?_⟩
  rw [Jvm.W.findHandler_eq (s := (T.setTop g).pushFrame (.throwing a)) (meth := meth) (code := c) X.method' X.code, hsplit]
  rw [hunt_entry (s := (T.setTop g).pushFrame (.throwing a)) hx h0 (c := cell.cls) (cell := cell) q1 hcell hobj q3 q3, if_pos (by show T.vm.assignable _ _ = true; rw [X.warmed.alike.assignable]; exact hfit)]
  exact Iff.rfl
/-- two handlers, and the exception is of the second's class, not of the first's -/
theorem hunt2 (X : Stand p l e R s m args below meth c T locs cells slots) {g : JFrame} (hg : g.method = m) {own n1 n2 : String} (hown : s.vm.findClass own = some m.cls) {x1 x2 : ExceptionTableEntry} {rest : List ExceptionTableEntry} (hsplit : c.exceptionTable.toList = x1 :: x2 :: rest) (hx1 : covers x1 g.pc = true) (hx2 : covers x2 g.pc = true) (h01 : x1.catchType ≠ 0) (h02 : x2.catchType ≠ 0)
    (hl1 : (Cond.classLink own x1.catchType n1).before args s = true) (hl2 : (Cond.classLink own x2.catchType n2).before args s = true) {a : Addr} {cell : Cell} {c1 : ClassId} (hc1 : s.vm.findClass n1 = some c1) (hc2 : s.vm.findClass n2 = some cell.cls) (hcell : T.heap[a]? = some cell) (hobj : ∀ z, cell.vm ≠ .statics z) (hno : s.vm.assignable cell.cls c1 = false) (hfit : s.vm.assignable cell.cls cell.cls = true) :
    ∃ vm', s.WarmedH vm' ∧ Hunt e ((T.setTop g).pushFrame (.throwing a)) g a (.found x2.handlerPc) vm' := by
  have hpl : e.platform.magicAccessors = ({} : Platform).magicAccessors := by rw [X.admits.platform]
  obtain ⟨q1, q2, q3⟩ := link_any (e := e) hpl hown hl1 hc1 X.warmed
  obtain ⟨-, -, q4⟩ := link_any (e := e) hpl hown hl2 hc2 X.warmed
  obtain ⟨r1, r2, r3⟩ := link_any (e := e) hpl hown hl2 hc2 q2
  subst hg
  refine ⟨_, r2, fun Q E d acts => ?_⟩
  rw [Jvm.W.findHandler_eq (s := (T.setTop g).pushFrame (.throwing a)) (meth := meth) (code := c) X.method' X.code, hsplit]
  rw [hunt_entry (s := (T.setTop g).pushFrame (.throwing a)) hx1 h01 (c := c1) (cell := cell) q1 hcell hobj q4 q3, if_neg (by show ¬ T.vm.assignable _ _ = true; rw [X.warmed.alike.assignable, hno]; decide)]
  have hv1 : ((T.setTop g).pushFrame (.throwing a)).vm = T.vm := throwing_vm T g a
  rw [hv1]
  rw [hunt_entry (s := ((T.setTop g).pushFrame (.throwing a)).setVm (T.vm.noted g.method.cls x1.catchType (.cls c1))) hx2 h02 (c := cell.cls) (cell := cell) r1 hcell hobj r3 r3, if_pos (by show (T.vm.noted _ _ _).assignable _ _ = true; rw [q2.alike.assignable]; exact hfit)]
  exact Iff.rfl
end Catch
/-- behind a call: on, or at the handler of the exception's kind -/
def kC (d : Nat) (M : MI) (pc : Nat) (ls st : List Value) (K : PO → PH → Prop) (hs : List Nat) : PO → PH → Prop := fun o σ => match o with
  | .inl v => PW d M pc ls (v.toList ++ st) σ K
  | .inr k => match hs[k]? with
    | some hp => ∀ a : Nat, PW d M hp ls [.ref a] σ K
    | none => False
/-- the handlers that cover pc: one of IllegalArgument, or with one of IllegalState behind it -/
def HS (M : MI) (pc : Nat) (hs : List Nat) : Prop := ∃ s1 e1 h0 t0, s1 ≤ pc ∧ pc < e1 ∧ t0 ≠ 0 ∧ Cond.classLink M.1.cls t0 (exN 0) ∈ lw_tbl ∧ ((M.2.2.2.2 = [(s1, e1, h0, t0)] ∧ hs = [h0]) ∨ ∃ h1 t1, t1 ≠ 0 ∧ Cond.classLink M.1.cls t1 (exN 1) ∈ lw_tbl ∧ M.2.2.2.2 = [(s1, e1, h0, t0), (s1, e1, h1, t1)] ∧ hs = [h0, h1])
theorem ex_no : Cond.not (Cond.castable "java/lang/IllegalStateException" "java/lang/IllegalArgumentException") ∈ flatC (Jvm.Cond.and given_1 narrow_1) := by decide +kernel
theorem ex_ca : ∀ k, k < 2 → Cond.castable (exN k) (exN k) ∈ lw_tbl := by decide +kernel
section CallC
variable {d : Nat} {M M' : MI} {pc i n : Nat} {ls st vs : List Value} {σ : PH} {K : PO → PH → Prop}
theorem pw_callVC {b cn : Nat} {hs : List Nat} (hd : decode M.2.1 pc = .ok (.invokevirtual i, 3)) (hq : CQ M' n) (hi : Cond.instanceMethod M'.1 ∈ lw_tbl) (hse : Cond.selects M'.1.cls M'.1 M'.1 ∈ lw_tbl) (hl : Cond.methodLink M.1.cls i M'.1 ∈ lw_tbl) (hcn : clN cn = M'.1.cls) (hb0 : sh σ b = (1, cn)) (hH : HS M pc hs) (hn : vs.length = n) (hlt : n + 1 ≤ M'.2.2.1) (hcat : ∀ v ∈ vs, v.category = 1) (hst : (st.map fun v => v.category).sum ≤ 8)
    (h : PW d M' 0 (.ref b :: vs ++ List.replicate (M'.2.2.1 - (vs.length + 1)) (.retAddr 0)) [] σ (kC (d + 1) M (pc + 3) ls st K hs)) : PW (d + 1) M pc ls (vs.reverse ++ .ref b :: st) σ K := by
  intro G p l e R s m args below meth c H locs cells slots A c0 s0 hC hR hA hL h1 h2 h3 h4
  intro T hT X
  subst hT
  obtain ⟨hx, hb, hml, hret, hlocks, hnm, hfr, hlo, hTB, hKN, hmm, hex, hGK, hWs, hfl⟩ := id hC
  obtain ⟨mk, methk, ck, r1, r2, r3, r4, r5, r6, r7, r8, r9⟩ := hq.1.spec hTB
  obtain ⟨mk', methM, hnamed, hmethM, hstM, habM⟩ := Cond.instanceMethod_spec (hTB _ hi rfl args)
  cases r1.symm.trans hnamed
  cases r2.symm.trans hmethM
  obtain ⟨-, hcl, cellB, z1, z2, z3, -⟩ := (hR.1 b).obj hb0
  have hcls : s.vm.findClass M'.1.cls = some cellB.cls := by rw [z2, ← hcn]; exact (hKN cn hcl).2.1
  obtain ⟨c2, r2', m2, q1, q2, q3, q4, kP, hkP, hkPi⟩ := Cond.selects_spec (hTB _ hse rfl args)
  cases hcls.symm.trans q1
  cases (State.methodFound?_of_named hnamed hq.2.2.1).symm.trans q2
  cases hnamed.symm.trans q3
  have hselP : selectMethod e.platform s.vm cellB.cls mk = .method mk := by rw [Launch.admits_selectMethod X.admits]; exact q4
  obtain ⟨vm₁, X₁, hstep⟩ := X.invokevirtual hx (findClass_of_methodNamed hnm) (hTB _ hl rfl args) r1 r2 hstM hkP hkPi hq.2.2.1 (a := b) (cell := cellB) z1 (fun z h => by rw [z3] at h; cases h) hselP r2 habM hkP hkPi (g := F0 m pc A (vs.reverse ++ .ref b :: st)) rfl (argsL := vs) (rest := st) (hn.trans (hq.len r9)) rfl (by rw [hb]; exact hd)
  obtain ⟨o, σ', T', L, k, nn, hK, X', hLL, g1, g2, hRep, hgo⟩ := pcall (vs := .ref b :: vs) X₁ hx hTB hKN hGK hWs hfl hR hL h1 h2 h3 h4 hfr hlo (g := F0 m pc A st) rfl rfl (hA.1.trans hml.symm) (ig := .invokevirtual i) (by rw [hb]; exact hd) r1 r2 r3 r4 r5 r6 r7 r8 hq.2.2.2.1 (fun v hv => by rcases List.mem_cons.mp hv with rfl | hv; exact rfl; exact hcat v hv) (by simp; omega) (by have := hq.2.2.2.2.2.2; show (st.map _).sum + _ ≤ 26; omega) h
  cases o with
  | inl v =>
    obtain ⟨t, a1, b1⟩ := hK G p l e R s m args below meth c T'.heap (locs ++ L) (cells + k) (slots + nn) A c0 s0 hC hRep hA hLL g1 g2 h3 h4 T' rfl X'
    exact ⟨t, hstep t (fun acts => (hgo acts).trans a1), b1⟩
  | inr kd =>
    obtain ⟨a, cell, w1, w2, w3, hgo⟩ := hgo
    have hown := findClass_of_methodNamed hnm
    obtain ⟨s1, e1, h0, t0, cv1, cv2, ht0, hcl0, hcase⟩ := hH
    obtain ⟨b0, hnar, htb0⟩ := hGK.2
    have hno0 := flat_of_before _ hnar _ ex_no
    have key : ∃ (hp : Nat) (vm' : Vm), hs[kd]? = some hp ∧ s.WarmedH vm' ∧ Hunt e ((T'.setTop (F0 m pc A st)).pushFrame (.throwing a)) (F0 m pc A st) a (.found hp) vm' := by
      have hfitk : kd < 2 → s.vm.assignable cell.cls cell.cls = true := fun hk2 => by
        obtain ⟨cc1, cc2, y1, y2, y3⟩ := Cond.castable_spec (hTB _ (ex_ca kd hk2) rfl args)
        cases w3.symm.trans y1
        cases w3.symm.trans y2
        exact y3
      rcases hcase with ⟨hM, rfl⟩ | ⟨hh1, t1, ht1, hcl1, hM, rfl⟩
      · have hk0 : kd = 0 := by
          rcases Nat.eq_zero_or_pos kd with q | q
          · exact q
          · exfalso
            have : ([h0] : List Nat)[kd]? = none := List.getElem?_eq_none (by show 1 ≤ kd; omega)
            simp only [kC, this] at hK
        subst hk0
        rw [hM] at hex
        obtain ⟨x, hxl, hxe⟩ : ∃ x, c.exceptionTable.toList = [x] ∧ (x.startPc, x.endPc, x.handlerPc, x.catchType) = (s1, e1, h0, t0) := by
          cases hq : c.exceptionTable.toList with
          | nil => rw [hq] at hex; cases hex
          | cons x r =>
            rw [hq] at hex
            cases r with
            | nil => exact ⟨x, rfl, by simpa using hex⟩
            | cons y r => simp at hex
        simp only [Prod.mk.injEq] at hxe
        obtain ⟨x1, x2, x3, x4⟩ := hxe
        obtain ⟨vm', y1, y2⟩ := hunt1 X' (g := F0 m pc A st) rfl (own := M.1.cls) (name := exN 0) hown hxl (by simp [covers, x1, x2, cv1, cv2]) (by rw [x4]; exact ht0) (by rw [x4]; exact hTB _ hcl0 rfl args) w3 w1 w2 (hfitk (by decide))
        exact ⟨h0, vm', rfl, y1, by rw [← x3]; exact y2⟩
      · rw [hM] at hex
        obtain ⟨x, y, hxl, hxe, hye⟩ : ∃ x y, c.exceptionTable.toList = [x, y] ∧ (x.startPc, x.endPc, x.handlerPc, x.catchType) = (s1, e1, h0, t0) ∧ (y.startPc, y.endPc, y.handlerPc, y.catchType) = (s1, e1, hh1, t1) := by
          cases hq : c.exceptionTable.toList with
          | nil => rw [hq] at hex; cases hex
          | cons x r =>
            rw [hq] at hex
            cases r with
            | nil => simp at hex
            | cons y r =>
              cases r with
              | nil => exact ⟨x, y, rfl, by simpa using (List.cons.inj hex).1, by simpa using (List.cons.inj (List.cons.inj hex).2).1⟩
              | cons z r => simp at hex
        simp only [Prod.mk.injEq] at hxe hye
        obtain ⟨x1, x2, x3, x4⟩ := hxe
        obtain ⟨y1, y2, y3, y4⟩ := hye
        match kd, w3, hK, hfitk with
        | 0, w3, hK, hfitk =>
          obtain ⟨vm', u1, u2⟩ := hunt1 X' (g := F0 m pc A st) rfl (own := M.1.cls) (name := exN 0) hown hxl (by simp [covers, x1, x2, cv1, cv2]) (by rw [x4]; exact ht0) (by rw [x4]; exact hTB _ hcl0 rfl args) w3 w1 w2 (hfitk (by decide))
          exact ⟨h0, vm', rfl, u1, by rw [← x3]; exact u2⟩
        | 1, w3, hK, hfitk =>
          obtain ⟨cI, cI2, v1, v2, v3⟩ := Cond.castable_spec (hTB _ (ex_ca 0 (by decide)) rfl args)
          have hno : s.vm.assignable cell.cls cI = false := by
            cases has : s.vm.assignable cell.cls cI with
            | false => rfl
            | true =>
              exfalso
              have hal := hWs.alike
              have e1 : G.2.2.2.vm.findClass "java/lang/IllegalStateException" = some cell.cls := by rw [← hal.findClass]; exact w3
              have e2 : G.2.2.2.vm.findClass "java/lang/IllegalArgumentException" = some cI := by rw [← hal.findClass]; exact v1
              have e3 : G.2.2.2.vm.assignable cell.cls cI = true := by rw [← hal.assignable]; exact has
              simp [Cond.before, Cond.holds, Cond.value, e1, e2, e3] at hno0
          obtain ⟨vm', u1, u2⟩ := hunt2 X' (g := F0 m pc A st) rfl (own := M.1.cls) (n1 := exN 0) (n2 := exN 1) hown hxl (by simp [covers, x1, x2, cv1, cv2]) (by simp [covers, y1, y2, cv1, cv2]) (by rw [x4]; exact ht0) (by rw [y4]; exact ht1) (by rw [x4]; exact hTB _ hcl0 rfl args) (by rw [y4]; exact hTB _ hcl1 rfl args) v1 w3 w1 w2 hno (hfitk (by decide))
          exact ⟨hh1, vm', rfl, u1, by rw [← y3]; exact u2⟩
        | k + 2, w3, hK, hfitk =>
          exfalso
          have : ([h0, hh1] : List Nat)[k + 2]? = none := List.getElem?_eq_none (by simp)
          simp only [kC, this] at hK
    obtain ⟨hp, vm', y0, y1, y2⟩ := key
    simp only [kC, y0] at hK
    obtain ⟨t, a1, b1⟩ := hK a G p l e R s m args below meth c T'.heap (locs ++ L) (cells + k) (slots + nn) A c0 s0 hC hRep hA hLL g1 g2 h3 h4 (T'.setVm vm') rfl (X'.noted y1)
    exact ⟨t, hstep t (fun acts => (hgo acts).trans (hunt_steps (g := F0 m pc A st) X'.here y2 a1)), b1⟩
end CallC
def kHI (F : Int32 → PH → Prop) (F0 F1 : PH → Prop) : PO → PH → Prop := fun o σ => match o with
  | .inl (some (.int r)) => F r σ
  | .inr 0 => F0 σ
  | .inr 1 => F1 σ
  | _ => False
def kHV (F F0 F1 : PH → Prop) : PO → PH → Prop := fun o σ => match o with
  | .inl none => F σ
  | .inr 0 => F0 σ
  | .inr 1 => F1 σ
  | _ => False
section KH
variable {d : Nat} {M : MI} {pc p0 p1 : Nat} {ls st : List Value} {K : PO → PH → Prop}
theorem kHI_kC1 {F : Int32 → PH → Prop} {F0 : PH → Prop} (h : ∀ r σ', F r σ' → PW d M pc ls (.int r :: st) σ' K) (h0 : ∀ σ', F0 σ' → ∀ a : Nat, PW d M p0 ls [.ref a] σ' K) : ∀ o σ', kHI F F0 (fun _ => False) o σ' → kC d M pc ls st K [p0] o σ' := by
  intro o σ' ho
  match o, ho with
  | .inl (some (.int r)), ho => exact h r σ' ho
  | .inr 0, ho => exact h0 σ' ho
  | .inr 1, ho => exact False.elim ho
theorem kHI_kC2 {F : Int32 → PH → Prop} {F0 F1 : PH → Prop} (h : ∀ r σ', F r σ' → PW d M pc ls (.int r :: st) σ' K) (h0 : ∀ σ', F0 σ' → ∀ a : Nat, PW d M p0 ls [.ref a] σ' K) (h1 : ∀ σ', F1 σ' → ∀ a : Nat, PW d M p1 ls [.ref a] σ' K) : ∀ o σ', kHI F F0 F1 o σ' → kC d M pc ls st K [p0, p1] o σ' := by
  intro o σ' ho
  match o, ho with
  | .inl (some (.int r)), ho => exact h r σ' ho
  | .inr 0, ho => exact h0 σ' ho
  | .inr 1, ho => exact h1 σ' ho
theorem kHV_kC1 {F F0 : PH → Prop} (h : ∀ σ', F σ' → PW d M pc ls st σ' K) (h0 : ∀ σ', F0 σ' → ∀ a : Nat, PW d M p0 ls [.ref a] σ' K) : ∀ o σ', kHV F F0 (fun _ => False) o σ' → kC d M pc ls st K [p0] o σ' := by
  intro o σ' ho
  match o, ho with
  | .inl none, ho => exact h σ' ho
  | .inr 0, ho => exact h0 σ' ho
  | .inr 1, ho => exact False.elim ho
theorem kHV_kC2 {F F0 F1 : PH → Prop} (h : ∀ σ', F σ' → PW d M pc ls st σ' K) (h0 : ∀ σ', F0 σ' → ∀ a : Nat, PW d M p0 ls [.ref a] σ' K) (h1 : ∀ σ', F1 σ' → ∀ a : Nat, PW d M p1 ls [.ref a] σ' K) : ∀ o σ', kHV F F0 F1 o σ' → kC d M pc ls st K [p0, p1] o σ' := by
  intro o σ' ho
  match o, ho with
  | .inl none, ho => exact h σ' ho
  | .inr 0, ho => exact h0 σ' ho
  | .inr 1, ho => exact h1 σ' ho
end KH
