/-! ===== rules of the pure walk: an exception is made and thrown ===== -/
section Throw
variable {p : Program} {l : Launch} {e : Env} {R : Room} {s : State} {m : MethodId} {args : Array Value} {below : List Frame} {meth : Method} {c : Code} {T : State} {locs : List Loc} {cells slots : Nat}
/-- the walk, seen from where it stands: the frame that was entered, over the heap and the tables of now -/
theorem rebase (X : Stand p l e R s m args below meth c T locs cells slots) (hc : cells ≤ R.cells) (hs : slots ≤ R.slots) :
    Stand p l e { frames := R.frames, cells := R.cells - cells, slots := R.slots - slots, locals := R.locals } (T.setFrames s.frames) m args below meth c T [] 0 0 := by
  obtain ⟨g₀, hfr⟩ := X.frames_eq
  have hcur : T.cur < T.threads.size := State.cur_lt_of_frames hfr
  obtain ⟨th, hth, -⟩ := State.frames_cons hfr
  have hf : (T.setFrames s.frames).frames = .invoking m args :: below := by rw [State.frames_setFrames _ hcur, X.frames]
  have hal := X.warmed.alike
  have hroom := X.room
  refine ⟨X.admits, X.cas, X.clock, hf, ?_, ?_, X.method', X.code, X.here, X.tail, State.WarmedH.refl (T.setFrames s.frames), ?_, ?_, ?_⟩
  · have h1 := X.heapSize
    have h2 := X.used
    have h3 := X.book
    have e1 : (T.setFrames s.frames).localsInUse = s.localsInUse := by
      rw [State.localsInUse_invoking hf (meth := meth) (c := c) X.method' X.code, State.localsInUse_invoking X.frames X.method X.code]
    have e2 : (T.setFrames s.frames).frames = s.frames := by rw [State.frames_setFrames _ hcur]
    have e3 : e.platform.stackLimits (T.setFrames s.frames).me = e.platform.stackLimits s.me := by rw [State.stackLimits_setFrames]; exact X.limits
    have e4 : (T.setFrames s.frames).me.stackBytes = s.me.stackBytes := by rw [State.stackBytes_setFrames]; exact X.bytes
    have e5 : (T.setFrames s.frames).slotsTrue = true := h3
    have e6 : (T.setFrames s.frames).heap = T.heap := rfl
    have e7 : (T.setFrames s.frames).slotsUsed = T.slotsUsed := rfl
    unfold State.hasRoom at hroom ⊢
    rw [e1, e2, e3, e4, e5, e6, e7]
    simp only [Bool.and_eq_true, decide_eq_true_eq] at hroom ⊢
    refine ⟨⟨⟨⟨hroom.1.1.1.1, hroom.1.1.1.2⟩, ?_⟩, ?_⟩, trivial⟩
    · have := hroom.1.1.2
      omega
    · have := hroom.1.2
      omega
  · have hh := X.hears
    have hc1 : ∀ q, (T.setFrames s.frames).code? q = s.code? q := fun q => by rw [State.code?_eq, State.code?_eq]; show (T.vm.method? q).bind _ = _; rw [hal.method?]
    have hm1 : ∀ q, (T.setFrames s.frames).vm.method? q = s.vm.method? q := fun q => hal.method? ..
    unfold State.hears at hh ⊢
    cases below with
    | nil =>
      show (T.vm.method? m).any _ = true
      rw [hal.method?]
      exact hh
    | cons f r =>
      cases f <;> first | exact hh | (show (T.vm.method? m).any _ = true; rw [hal.method?]; exact hh) | (simp only [hc1]; exact hh)
  · rw [State.stackLimits_setFrames]
  · rw [State.stackBytes_setFrames]
  · obtain ⟨t', ht', -⟩ := State.frames_cons hf
    have h := (State.sameButNew.refl (T.setFrames s.frames) ht').setFrames T.frames (State.cur_lt_of_frames hf)
    have hback : (T.setFrames s.frames).setFrames T.frames = T := by rw [State.setFrames_setFrames, State.setFrames_self hth]
    rw [hback] at h
    exact h
end Throw
/-- words on statics, that hold at the law's entry, hold wherever the old cells are as they were -/
theorem low_lays {s0 U : State} {C n d : String} {a a' : Array Value} (hW : s0.WarmedH U.vm) (hh : ∀ q, q < s0.heap.size → U.heap[q]? = s0.heap[q]?) (h : (Cond.laysStatic C n d).before a s0 = true) : (Cond.laysStatic C n d).before a' U = true := by
  have h1 : (Cond.laysStatic C n d).before a (s0.setVm U.vm) = true := Cond.holds_shifted (State.Shifted.of_warmed hW) _ [] rfl h
  obtain ⟨c, k, i, f, ad, cell, hc, hi, hst, ha, hcell, hs, hcls, hlt, hty⟩ := Cond.laysStatic_spec h1
  have hi' : U.fieldFound? C n d = some (c, k, i, f) := hi
  have hc' : U.vm.findClass C = some c := hc
  have hcell' : U.heap[ad]? = some cell := by
    rw [hh ad (Array.getElem?_eq_some_iff.mp hcell).1]
    exact hcell
  unfold Cond.before Cond.holds Cond.value
  simp [hi', hc', ha, hcell', hst, hs, hcls, hlt, hty]
theorem low_ref {s0 U : State} {C n d : String} {a a' : Array Value} (hW : s0.WarmedH U.vm) (hh : ∀ q, q < s0.heap.size → U.heap[q]? = s0.heap[q]?) (h : (Cond.isRef (.static C n d)).before a s0 = true) : (Cond.isRef (.static C n d)).before a' U = true := by
  have h1 : (Cond.isRef (.static C n d)).before a (s0.setVm U.vm) = true := Cond.holds_shifted (State.Shifted.of_warmed hW) _ [] rfl h
  have key : ∀ v, (Term.static C n d).eval a (s0.setVm U.vm) none [] (s0.setVm U.vm) = some v → (Term.static C n d).eval a' U none [] U = some v := by
    intro v hv
    simp only [Term.eval] at hv ⊢
    have hf : (s0.setVm U.vm).fieldNamed? C n d true = U.fieldNamed? C n d true := rfl
    rw [hf] at hv
    cases hq : U.fieldNamed? C n d true with
    | none => rw [hq] at hv; simp at hv
    | some z =>
      obtain ⟨z1, k, slot⟩ := z
      rw [hq] at hv
      simp only [Option.bind_eq_bind, Option.bind_some] at hv ⊢
      cases hk : k.statics with
      | none => rw [hk] at hv; simp at hv
      | some ad =>
        rw [hk] at hv
        simp only [Option.bind_some] at hv ⊢
        cases hc : s0.heap[ad]? with
        | none =>
          have : (s0.setVm U.vm).heap[ad]? = none := hc
          rw [this] at hv; simp at hv
        | some cell =>
          have e1 : (s0.setVm U.vm).heap[ad]? = some cell := hc
          have e2 : U.heap[ad]? = some cell := by rw [hh ad (Array.getElem?_eq_some_iff.mp hc).1]; exact hc
          rw [e1] at hv
          rw [e2]
          exact hv
  unfold Cond.before Cond.holds Cond.value at h1 ⊢
  cases hv : (Term.static C n d).eval a (s0.setVm U.vm) none [] (s0.setVm U.vm) with
  | none => rw [hv] at h1; simp at h1
  | some v =>
    rw [hv] at h1
    rw [key v hv]
    exact h1
/-- the superclasses' names on the way to Throwable -/
def exS : List String := ["java/lang/RuntimeException", "java/lang/Exception"]
/-- the words of a throw that stand in the tables and move with them -/
def exW (own : String) (ic : Nat) (k : Nat) : List Cond := (Bundle.ownAtoms0 own ic (exN k) exS).filter okW
theorem ex_rest (own : String) (ic k : Nat) : ∀ w ∈ Bundle.ownAtoms0 own ic (exN k) exS, okW w = true ∨ w = .laysStatic "java/lang/Throwable" "UNASSIGNED_STACK" "[Ljava/lang/StackTraceElement;" ∨ w = .laysStatic "java/lang/Throwable" "SUPPRESSED_SENTINEL" "Ljava/util/List;" ∨ w = .isRef (.static "java/lang/Throwable" "UNASSIGNED_STACK" "[Ljava/lang/StackTraceElement;") ∨ w = .isRef (.static "java/lang/Throwable" "SUPPRESSED_SENTINEL" "Ljava/util/List;") := by
  simp only [Bundle.ownAtoms0, Bundle.throwableAtoms, Bundle.chain0Atoms, Bundle.passAtoms, exS, List.cons_append, List.nil_append, List.forall_mem_cons]
  simp [okW, goodWord, Cond.onTables, Cond.keeps, Cond.steady, isNest, Bundle.tN, Bundle.steD, Bundle.listD]
theorem ex_tbl0 : ∀ w ∈ exW "RelayDesk" 102 0, w ∈ lw_tbl := by decide +kernel
theorem ex_tbl1 : ∀ w ∈ exW "RelayDesk" 108 1, w ∈ lw_tbl := by decide +kernel
theorem ex_fit : ∀ k, k < 2 → Bundle.fit (exN k) = true ∧ (∀ n ∈ exS, Bundle.fit n = true) := by decide +kernel
theorem ex_is : ∀ k, k < 2 → Cond.instantiable (exN k) 6 ∈ lw_tbl ∧ Cond.initialized (exN k) ∈ lw_tbl := by decide +kernel
theorem ex_ls : Cond.laysStatic "java/lang/Throwable" "UNASSIGNED_STACK" "[Ljava/lang/StackTraceElement;" ∈ lw_tbl ∧ Cond.laysStatic "java/lang/Throwable" "SUPPRESSED_SENTINEL" "Ljava/util/List;" ∈ lw_tbl := by decide +kernel
