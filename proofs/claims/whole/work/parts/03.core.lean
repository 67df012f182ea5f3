/-! ===== the pure machine: heap by fields and elements, a method by its name, bytes, locals, answer, handlers ===== -/
abbrev MI : Type := MethodName × ByteArray × Nat × Option FieldType × List (Nat × Nat × Nat × Nat)
/-- how a method ends: with an answer (or none), or with an exception of a kind (0 IllegalArgument, 1 IllegalState) -/
abbrev PO : Type := Option Value ⊕ Nat
/-- the first own cell, cells made so far, slots made so far, shapes (kind, length or class), int fields, reference fields, int elements, reference elements, long elements; the text constant, a static -/
abbrev PH : Type := Nat × Nat × Nat × (Nat → Nat × Nat) × (Nat → Nat → Int32) × (Nat → Nat → Option Nat) × (Nat → Nat → Int32) × (Nat → Nat → Option Nat) × (Nat → Nat → Int64) × Nat × Option Nat
def bs (σ : PH) : Nat := σ.1
def cc (σ : PH) : Nat := σ.2.1
def cs (σ : PH) : Nat := σ.2.2.1
def sh (σ : PH) : Nat → Nat × Nat := σ.2.2.2.1
def gI (σ : PH) : Nat → Nat → Int32 := σ.2.2.2.2.1
def gR (σ : PH) : Nat → Nat → Option Nat := σ.2.2.2.2.2.1
def eI (σ : PH) : Nat → Nat → Int32 := σ.2.2.2.2.2.2.1
def eR (σ : PH) : Nat → Nat → Option Nat := σ.2.2.2.2.2.2.2.1
def eL (σ : PH) : Nat → Nat → Int64 := σ.2.2.2.2.2.2.2.2.1
def kA (σ : PH) : Nat := σ.2.2.2.2.2.2.2.2.2.1
def kF (σ : PH) : Option Nat := σ.2.2.2.2.2.2.2.2.2.2
/-- where the next cell comes -/
def nx (σ : PH) : Nat := bs σ + cc σ
def up2 {α : Type} (f : Nat → Nat → α) (a b : Nat) (v : α) : Nat → Nat → α := fun x y => if x = a ∧ y = b then v else f x y
def up1 {α : Type} (f : Nat → α) (a : Nat) (v : α) : Nat → α := fun x => if x = a then v else f x
/-- writes -/
def pI (σ : PH) (f a : Nat) (v : Int32) : PH := (bs σ, cc σ, cs σ, sh σ, up2 (gI σ) f a v, gR σ, eI σ, eR σ, eL σ, kA σ, kF σ)
def pR (σ : PH) (f a : Nat) (v : Option Nat) : PH := (bs σ, cc σ, cs σ, sh σ, gI σ, up2 (gR σ) f a v, eI σ, eR σ, eL σ, kA σ, kF σ)
def uI (σ : PH) (a j : Nat) (v : Int32) : PH := (bs σ, cc σ, cs σ, sh σ, gI σ, gR σ, up2 (eI σ) a j v, eR σ, eL σ, kA σ, kF σ)
def uR (σ : PH) (a j : Nat) (v : Option Nat) : PH := (bs σ, cc σ, cs σ, sh σ, gI σ, gR σ, eI σ, up2 (eR σ) a j v, eL σ, kA σ, kF σ)
def uL (σ : PH) (a j : Nat) (v : Int64) : PH := (bs σ, cc σ, cs σ, sh σ, gI σ, gR σ, eI σ, eR σ, up2 (eL σ) a j v, kA σ, kF σ)
/-- k cells of n slots more, that nobody keeps -/
def bump (σ : PH) (k n : Nat) : PH := (bs σ, cc σ + k, cs σ + n, sh σ, gI σ, gR σ, eI σ, eR σ, eL σ, kA σ, kF σ)
def zr1 {α : Type} (f : Nat → Nat → α) (a : Nat) (v : α) : Nat → Nat → α := fun x y => if x = a then v else f x y
def zr2 {α : Type} (f : Nat → Nat → α) (a : Nat) (v : α) : Nat → Nat → α := fun x y => if y = a then v else f x y
/-- a new cell at nx: its shape; its fields and elements are 0 and null -/
def mk (σ : PH) (s : Nat × Nat) (n : Nat) : PH := (bs σ, cc σ + 1, cs σ + n, up1 (sh σ) (nx σ) s, zr2 (gI σ) (nx σ) 0, zr2 (gR σ) (nx σ) none, zr1 (eI σ) (nx σ) 0, zr1 (eR σ) (nx σ) none, zr1 (eL σ) (nx σ) 0, kA σ, kF σ)
/-- the world: the first cell of the law's own, the classes' numbers and slots, the state at the law's entry -/
abbrev WG : Type := Nat × (Nat → ClassId) × (Nat → Nat → Nat) × State
def isR (t : FieldType) : Bool := match t with
  | .object _ => true
  | .array _ => true
  | _ => false
/-- what field k of an object of class c at a holds -/
def fv (σ : PH) (c a k : Nat) : Value := if isR (clY c k) = true then va_rf (gR σ (64 * c + k) a) else .int (gI σ (64 * c + k) a)
/-- kinds of arrays: 2 int, 3 char, 4 boolean, 5 long, 6 Channel, 7 Message, 8 Case, 9 Route, 10 an int array that nobody writes, 11 the bytes of a text constant; (0, 1): a text constant -/
def aT : Nat → FieldType := fun k => match k with
  | 2 => .int
  | 3 => .char
  | 4 => .boolean
  | 5 => .long
  | 6 => .object "RelayDesk$Channel"
  | 7 => .object "RelayDesk$Message"
  | 8 => .object "RelayDesk$Case"
  | 9 => .object "RelayDesk$Route"
  | 11 => .byte
  | _ => .int
def av (σ : PH) (k a j : Nat) : Value := if k = 5 then .long (eL σ a j) else if isR (aT k) = true then va_rf (eR σ a j) else .int (eI σ a j)
/-- an array in the heap -/
def AR (U : State) (H : Heap) (a : Nat) (t : FieldType) (n : Nat) (v : Nat → Value) : Prop :=
  ∃ cell : Cell, H[a]? = some cell ∧ U.isArrayOf cell t ∧ cell.vm ≠ .unknown ∧ cell.slots.size = n ∧ (∀ j, j < n → cell.slots[j]? = some (v j)) ∧ (isR t = true → va_RA U cell.cls t)
/-- a text constant of one byte a character: its fields -/
def SC (U : State) (H : Heap) (a : Nat) (v : Value) : Prop :=
  ∃ cell : Cell, H[a]? = some cell ∧ cell.vm.isStatics = false ∧ cell.vm ≠ .unknown ∧ U.vm.findClass "java/lang/String" = some cell.cls ∧
    (∃ cf k fi f, U.fieldFound? "java/lang/String" "coder" "B" = some (cf, k, fi, f) ∧ f.isStatic = false ∧ cell.slots[f.slot]? = some (.int 0)) ∧
    ∃ cf k fi f, U.fieldFound? "java/lang/String" "value" "[B" = some (cf, k, fi, f) ∧ f.isStatic = false ∧ cell.slots[f.slot]? = some v
/-- what the heap holds at a -/
def RA (G : WG) (σ : PH) (U : State) (H : Heap) (a : Nat) : Prop := match (sh σ a).1 with
  | 0 => (sh σ a).2 = 1 → a < G.1 ∧ SC U H a (va_rf (gR σ 9000 a))
  | 1 => G.1 ≤ a ∧ (sh σ a).2 < 12 ∧ t_OB a (G.2.1 (sh σ a).2) (clF (sh σ a).2) (G.2.2.1 (sh σ a).2) H (fv σ (sh σ a).2 a)
  | k => k ≤ 11 ∧ (k < 10 → G.1 ≤ a) ∧ (sh σ a).2 < 2 ^ 31 ∧ AR U H a (aT k) (sh σ a).2 (av σ k a)
/-- the bytes of the text of the figures -/
def figB (j : Nat) : Int32 := ([48, 49, 50, 51, 52, 53, 54, 55, 56, 57, 46, 44, 45, 47, 40, 41, 63, 58, 39, 43, 61] : List Int32).getD j 0
/-- the text constant lies where the tables say -/
def TXT (G : WG) (σ : PH) : Prop := ∃ a v : Nat, (Term.string "RelayDesk$Signs" 9).eval #[] G.2.2.2 none [] G.2.2.2 = some (.ref a) ∧ a < G.1 ∧ v < G.1 ∧ sh σ a = (0, 1) ∧ gR σ 9000 a = some v ∧ sh σ v = (11, 21) ∧ ∀ j, j < 21 → eI σ v j = figB j
def Rep (G : WG) (σ : PH) (U : State) (H : Heap) : Prop := (∀ a, RA G σ U H a) ∧ H.size = nx σ ∧ bs σ = G.1 ∧ cc σ ≤ 601024 ∧ cs σ ≤ 7293034 ∧ (∀ q, q < G.1 → H[q]? = G.2.2.2.heap[q]?) ∧ TXT G σ
def isNest (w : Cond) : Bool := match w with
  | .fieldLinkNest _ _ _ _ _ _ => true
  | .methodLinkNest _ _ _ _ => true
  | .arrayOver (.object _) => true
  | .declares _ => true
  | .castable _ _ => true
  | _ => false
def okW (w : Cond) : Bool := goodWord w || isNest w
/-- the tables' words -/
def TB (U : State) : Prop := ∀ w ∈ lw_tbl, okW w = true → ∀ a : Array Value, w.before a U = true
theorem TB.moved {s U : State} (hW : s.WarmedH U.vm) (h : TB s) : TB U := by
  intro w hw hk a
  by_cases hg : goodWord w = true
  · exact word_at (args := #[]) hW (good_of_word hg) (h w hw hk #[])
  · have hn : isNest w = true := by
      unfold okW at hk
      simpa [hg] using hk
    have h0 := h w hw hk #[]
    cases w <;> first | (simp [isNest] at hn; done) | exact va_Nw.use rfl (va_Nw.warmM hW h0) | exact va_Nw.use rfl (va_Nw.warmF hW h0) | exact va_Nw.use rfl (va_Nw.warmD hW h0) | exact va_tabs rfl (rfl : (s.setVm U.vm).vm = U.vm) (by rw [Cond.castable_setVm hW.alike]; exact h0) | skip
    rename_i t
    cases t <;> first | (simp [isNest] at hn; done) | exact va_AO.use (va_AO.moved hW.alike h0)
/-- what the Statement gives of the start -/
def GK (G : WG) : Prop := G.1 = G.2.2.2.heap.size ∧ ∃ b : Nat, (Jvm.Cond.and given_1 narrow_1).before #[Value.ref b] G.2.2.2 = true ∧ ∀ w ∈ lw_tbl, w.before #[Value.ref b] G.2.2.2 = true
def KN (G : WG) (U : State) : Prop := ∀ c, c < 12 → u_Kn U (clN c) (clT c) (clF c) (G.2.1 c) (G.2.2.1 c)
theorem KN.moved {G : WG} {u U : State} (hvm : u.vm.Alike U.vm) (h : KN G u) : KN G U := fun c hc => u_Kn_moved hvm (h c hc)
theorem AR.moved {u U : State} {H : Heap} {a : Nat} {t : FieldType} {n : Nat} {v : Nat → Value} (hvm : u.vm.Alike U.vm) (h : AR u H a t n v) : AR U H a t n v := by
  obtain ⟨cell, h1, h2, h3, h4, h5, h6⟩ := h
  exact ⟨cell, h1, State.isArrayOf_alike hvm h2, h3, h4, h5, fun q => (h6 q).moved hvm⟩
theorem SC.moved {u U : State} {H : Heap} {a : Nat} {v : Value} (hvm : u.vm.Alike U.vm) (h : SC u H a v) : SC U H a v := by
  obtain ⟨cell, h1, h2, h3, h4, ⟨cf, k, fi, f, h5, h6, h7⟩, cf2, k2, fi2, f2, h8, h9, h10⟩ := h
  obtain ⟨k', hi', -⟩ := State.fieldFound?_setVm hvm h5
  obtain ⟨k2', hi2', -⟩ := State.fieldFound?_setVm hvm h8
  exact ⟨cell, h1, h2, h3, by rw [hvm.findClass]; exact h4, ⟨cf, k', fi, f, hi', h6, h7⟩, cf2, k2', fi2, f2, hi2', h9, h10⟩
theorem SC.kept {U : State} {H H1 : Heap} {a : Nat} {v : Value} (h : SC U H a v) (h1 : H1[a]? = H[a]?) : SC U H1 a v := by
  obtain ⟨cell, q, r⟩ := h
  exact ⟨cell, by rw [h1]; exact q, r⟩
theorem RA.moved {G : WG} {σ : PH} {u U : State} {H : Heap} {a : Nat} (hvm : u.vm.Alike U.vm) (h : RA G σ u H a) : RA G σ U H a := by
  unfold RA at h ⊢
  split at h
  · exact fun e => ⟨(h e).1, (h e).2.moved hvm⟩
  · exact h
  · exact ⟨h.1, h.2.1, h.2.2.1, h.2.2.2.moved hvm⟩
theorem Rep.moved {G : WG} {σ : PH} {u U : State} {H : Heap} (hvm : u.vm.Alike U.vm) (h : Rep G σ u H) : Rep G σ U H := ⟨fun a => (h.1 a).moved hvm, h.2⟩
/-- locals: what is listed is held; .retAddr is 'unset' -/
def LV (A : Array Slot) (nL : Nat) (ls : List Value) : Prop := A.size = nL ∧ lv_wf A ∧ ls.length = nL ∧ ∀ (i : Nat) (v : Value), ls[i]? = some v → (∀ n, v ≠ .retAddr n) → v.category = 1 ∧ A[i]? = some (.val v)
theorem LV.at {A : Array Slot} {nL : Nat} {ls : List Value} (h : LV A nL ls) {i : Nat} {v : Value} (hi : ls[i]? = some v) (hv : ∀ n, v ≠ .retAddr n) : A[i]? = some (.val v) := (h.2.2.2 i v hi hv).2
theorem LV.store {A : Array Slot} {nL : Nat} {ls : List Value} (h : LV A nL ls) {i : Nat} {v : Value} (hi : i < nL) (hc : v.category = 1) (hr : ∀ n, v ≠ .retAddr n) :
    ∃ A', storeLocals A i v = some A' ∧ LV A' nL (ls.set i v) := by
  obtain ⟨h1, h2, h3, h4⟩ := h
  obtain ⟨A', e', q1, q2, q3⟩ := lv_store1 (ls := A) (nL := nL) (l := []) (i := i) (v := v) ⟨h1, h2, fun q hq => by simp at hq⟩ hi hc
  refine ⟨A', e', q1, q2, by simp [h3], fun j w hj hw => ?_⟩
  by_cases hij : i = j
  · subst hij
    rw [List.getElem?_set_self (by omega)] at hj
    cases hj
    exact ⟨hc, q3 (i, v) (by simp)⟩
  · rw [List.getElem?_set_ne hij] at hj
    obtain ⟨c1, c2⟩ := h4 j w hj hw
    obtain ⟨A2, e2, -, -, r3⟩ := lv_store1 (ls := A) (nL := nL) (l := [(j, w)]) (i := i) (v := v) ⟨h1, h2, fun q hq => by rw [List.mem_singleton.mp hq]; exact c2⟩ hi hc
    have : A2 = A' := Option.some.inj (e2.symm.trans e')
    subst this
    refine ⟨c1, r3 (j, w) ?_⟩
    have : ¬ j = i := fun q => hij q.symm
    simp [this, c1]
/-- exception classes by kind -/
def exN : Nat → String := fun k => match k with
  | 0 => "java/lang/IllegalArgumentException"
  | _ => "java/lang/IllegalStateException"
/-- an outcome beside its pure one -/
def OM (o : PO) (x : Outcome) (s t : State) : Prop := match o with
  | .inl v => x = .returned v
  | .inr k => ∃ (a : Addr) (cell : Cell), x = .threw a ∧ t.heap[a]? = some cell ∧ (∀ z, cell.vm ≠ .statics z) ∧ s.vm.findClass (exN k) = some cell.cls
/-- what a method's body stands on -/
def Ctx (G : WG) (d : Nat) (M : MI) (p : Program) (l : Launch) (R : Room) (s : State) (m : MethodId) (meth : Method) (c : Code) : Prop :=
  p.tables.exec = Jvm.exec ∧ c.code = M.2.1 ∧ c.maxLocals = M.2.2.1 ∧ meth.sig.returnType = M.2.2.2.1 ∧ meth.locks = false ∧ s.methodNamed? M.1 = some m ∧ d ≤ R.frames ∧ 37 * d ≤ R.locals ∧ TB s ∧ KN G s ∧ s.vm.method? m = some meth ∧ c.exceptionTable.toList.map (fun h => (h.startPc, h.endPc, h.handlerPc, h.catchType)) = M.2.2.2.2 ∧ GK G ∧ G.2.2.2.WarmedH s.vm ∧ l.flags = flags0
/-- the end that a walk comes to -/
def EQ (G : WG) (K : PO → PH → Prop) (below : List Frame) (s : State) (c0 s0 : Nat) : State → Prop := fun t =>
  ∃ (o : PO) (σ : PH) (x : Outcome) (L : List Loc) (k n : Nat), K o σ ∧ t.status = .running ∧ Ended t below x ∧ s.WarmedH t.vm ∧ s.sameButNew ({ t with vm := s.vm } : State) L k n ∧ (∀ q ∈ L, G.1 ≤ q.base) ∧ c0 + k = cc σ ∧ s0 + n = cs σ ∧ Rep G σ s t.heap ∧ OM o x s t
/-- THE PURE WALK: from pc with these locals, this stack and this heap, the method M comes to an end that K allows -/
def PW (d : Nat) (M : MI) (pc : Nat) (ls st : List Value) (σ : PH) (K : PO → PH → Prop) : Prop :=
  ∀ (G : WG) (p : Program) (l : Launch) (e : Env) (R : Room) (s : State) (m : MethodId) (args : Array Value) (below : List Frame) (meth : Method) (c : Code) (H : Heap) (locs : List Loc) (cells slots : Nat) (A : Array Slot) (c0 s0 : Nat),
    Ctx G d M p l R s m meth c → Rep G σ s H → LV A M.2.2.1 ls → (∀ q ∈ locs, G.1 ≤ q.base) → c0 + cells = cc σ → s0 + slots = cs σ → R.cells + c0 = 601024 → R.slots + s0 = 7293034 →
    W p l e R s m args below meth c H locs cells slots (EQ G K below s c0 s0) (F0 m pc A st)
