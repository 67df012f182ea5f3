/-! ===== rules of the pure walk: locals, stack, numbers, branches ===== -/
/-- a step that leaves the heap alone -/
def SS (M : MI) (pc : Nat) (ls st : List Value) (pc' : Nat) (ls' st' : List Value) : Prop :=
  ∀ (p : Program) (l : Launch) (e : Env) (R : Room) (s : State) (m : MethodId) (args : Array Value) (below : List Frame) (meth : Method) (c : Code) (H : Heap) (locs : List Loc) (cells slots : Nat) (Q : State → Prop) (A : Array Slot),
    p.tables.exec = Jvm.exec → c.code = M.2.1 → s.vm.findClass M.1.cls = some m.cls → TB s → LV A M.2.2.1 ls → (∀ A' : Array Slot, LV A' M.2.2.1 ls' → W p l e R s m args below meth c H locs cells slots Q (F0 m pc' A' st')) → W p l e R s m args below meth c H locs cells slots Q (F0 m pc A st)
section Rules
variable {d : Nat} {M : MI} {pc pc' : Nat} {ls ls' st st' : List Value} {σ : PH} {K : PO → PH → Prop}
theorem PW.ss (h : SS M pc ls st pc' ls' st') (k : PW d M pc' ls' st' σ K) : PW d M pc ls st σ K := by
  intro G p l e R s m args below meth c H locs cells slots A c0 s0 hC hR hA hL h1 h2 h3 h4
  refine h p l e R s m args below meth c H locs cells slots _ A hC.1 hC.2.1 (findClass_of_methodNamed hC.2.2.2.2.2.1) hC.2.2.2.2.2.2.2.2.1 hA (fun A' hA' => ?_)
  exact k G p l e R s m args below meth c H locs cells slots A' c0 s0 hC hR hA' hL h1 h2 h3 h4
theorem va_rf_ref (o : Option Nat) : (va_rf o).isRef = true := by cases o <;> rfl
theorem isRef_not {v : Value} (h : v.isRef = true) : ∀ n, v ≠ .retAddr n := fun n e => by rw [e] at h; cases h
theorem isRef_cat {v : Value} (h : v.isRef = true) : v.category = 1 := by cases v <;> first | rfl | cases h
theorem int_not (x : Int32) : ∀ n, (Value.int x) ≠ .retAddr n := fun n e => by cases e

theorem pw_iload_n {k : Fin 4} {x : Int32} (hd : decode M.2.1 pc = .ok (.iload_n k, 1)) (hl : ls[(k : Nat)]? = some (.int x)) (h : PW d M (pc + 1) ls (.int x :: st) σ K) : PW d M pc ls st σ K := by
  refine PW.ss ?_ h
  intro p l e R s m args below meth c H locs cells slots Q A hx hb ho ht hA kk
  exact lv_iload_n hx hb hd rfl (hA.at hl (int_not x)) (kk A hA)
theorem pw_iload {k : Nat} {x : Int32} (hd : decode M.2.1 pc = .ok (.iload k, 2)) (hl : ls[k]? = some (.int x)) (h : PW d M (pc + 2) ls (.int x :: st) σ K) : PW d M pc ls st σ K := by
  refine PW.ss ?_ h
  intro p l e R s m args below meth c H locs cells slots Q A hx hb ho ht hA kk
  exact lv_iload hx hb hd (hA.at hl (int_not x)) (kk A hA)
theorem pw_aload_n {k : Fin 4} {v : Value} (hd : decode M.2.1 pc = .ok (.aload_n k, 1)) (hl : ls[(k : Nat)]? = some v) (hv : v.isRef = true) (h : PW d M (pc + 1) ls (v :: st) σ K) : PW d M pc ls st σ K := by
  refine PW.ss ?_ h
  intro p l e R s m args below meth c H locs cells slots Q A hx hb ho ht hA kk
  have hl := hA.at hl (isRef_not hv)
  intro T hT X
  obtain ⟨t, a, b⟩ := kk A hA T hT X
  refine ⟨t, ?_, b⟩
  jvm_step X.here [X.here.top, hx, hb, hd, hl, hv]
  exact a
theorem pw_aload {k : Nat} {v : Value} (hd : decode M.2.1 pc = .ok (.aload k, 2)) (hl : ls[k]? = some v) (hv : v.isRef = true) (h : PW d M (pc + 2) ls (v :: st) σ K) : PW d M pc ls st σ K := by
  refine PW.ss ?_ h
  intro p l e R s m args below meth c H locs cells slots Q A hx hb ho ht hA kk
  have hl := hA.at hl (isRef_not hv)
  intro T hT X
  obtain ⟨t, a, b⟩ := kk A hA T hT X
  refine ⟨t, ?_, b⟩
  jvm_step X.here [X.here.top, hx, hb, hd, hl, hv]
  exact a
theorem pw_istore_n {k : Fin 4} {x : Int32} (hd : decode M.2.1 pc = .ok (.istore_n k, 1)) (hn : (k : Nat) < M.2.2.1) (h : PW d M (pc + 1) (ls.set (k : Nat) (.int x)) st σ K) : PW d M pc ls (.int x :: st) σ K := by
  refine PW.ss ?_ h
  intro p l e R s m args below meth c H locs cells slots Q A hx hb ho ht hA kk
  obtain ⟨A', e', h'⟩ := hA.store (v := .int x) hn rfl (int_not x)
  intro T hT X
  obtain ⟨t, a, b⟩ := kk A' h' T hT X
  refine ⟨t, ?_, b⟩
  jvm_step X.here [X.here.top, ↓top_set X.here.top, hx, hb, hd, e']
  exact a
theorem pw_istore {k : Nat} {x : Int32} (hd : decode M.2.1 pc = .ok (.istore k, 2)) (hn : (k : Nat) < M.2.2.1) (h : PW d M (pc + 2) (ls.set (k : Nat) (.int x)) st σ K) : PW d M pc ls (.int x :: st) σ K := by
  refine PW.ss ?_ h
  intro p l e R s m args below meth c H locs cells slots Q A hx hb ho ht hA kk
  obtain ⟨A', e', h'⟩ := hA.store (v := .int x) hn rfl (int_not x)
  intro T hT X
  obtain ⟨t, a, b⟩ := kk A' h' T hT X
  refine ⟨t, ?_, b⟩
  jvm_step X.here [X.here.top, ↓top_set X.here.top, hx, hb, hd, e']
  exact a
theorem pw_astore_n {k : Fin 4} {v : Value} (hd : decode M.2.1 pc = .ok (.astore_n k, 1)) (hn : (k : Nat) < M.2.2.1) (hv : v.isRef = true) (h : PW d M (pc + 1) (ls.set (k : Nat) v) st σ K) : PW d M pc ls (v :: st) σ K := by
  refine PW.ss ?_ h
  intro p l e R s m args below meth c H locs cells slots Q A hx hb ho ht hA kk
  obtain ⟨A', e', h'⟩ := hA.store (v := v) hn (isRef_cat hv) (isRef_not hv)
  intro T hT X
  obtain ⟨t, a, b⟩ := kk A' h' T hT X
  refine ⟨t, ?_, b⟩
  jvm_step X.here [X.here.top, ↓top_set X.here.top, hx, hb, hd, e', hv]
  exact a
theorem pw_astore {k : Nat} {v : Value} (hd : decode M.2.1 pc = .ok (.astore k, 2)) (hn : (k : Nat) < M.2.2.1) (hv : v.isRef = true) (h : PW d M (pc + 2) (ls.set (k : Nat) v) st σ K) : PW d M pc ls (v :: st) σ K := by
  refine PW.ss ?_ h
  intro p l e R s m args below meth c H locs cells slots Q A hx hb ho ht hA kk
  obtain ⟨A', e', h'⟩ := hA.store (v := v) hn (isRef_cat hv) (isRef_not hv)
  intro T hT X
  obtain ⟨t, a, b⟩ := kk A' h' T hT X
  refine ⟨t, ?_, b⟩
  jvm_step X.here [X.here.top, ↓top_set X.here.top, hx, hb, hd, e', hv]
  exact a
theorem pw_iinc {i : Nat} {n : Int} {x : Int32} (hd : decode M.2.1 pc = .ok (.iinc i n, 3)) (hl : ls[i]? = some (.int x)) (hn : i < M.2.2.1) (h : PW d M (pc + 3) (ls.set i (.int (x + Int32.ofInt n))) st σ K) : PW d M pc ls st σ K := by
  refine PW.ss ?_ h
  intro p l e R s m args below meth c H locs cells slots Q A hx hb ho ht hA kk
  have hg := hA.at hl (int_not x)
  obtain ⟨A', e', h'⟩ := hA.store (v := .int (x + Int32.ofInt n)) hn rfl (int_not _)
  intro T hT X
  obtain ⟨t, a, b⟩ := kk A' h' T hT X
  refine ⟨t, ?_, b⟩
  jvm_step X.here [X.here.top, ↓top_set X.here.top, hx, hb, hd, hg, e']
  exact a
theorem pw_iconst {n : Int} {v : Int32} (hd : decode M.2.1 pc = .ok (.iconst n, 1)) (hv : Int32.ofInt n = v) (h : PW d M (pc + 1) ls (.int v :: st) σ K) : PW d M pc ls (st) σ K := by
  refine PW.ss ?_ h
  intro p l e R s m args below meth c H locs cells slots Q A hx hb ho ht hA kk
  exact lv_iconst hx hb hd hv (kk A hA)
theorem pw_bipush {n : Int} {v : Int32} (hd : decode M.2.1 pc = .ok (.bipush n, 2)) (hv : (Int8.ofInt n).toInt32 = v) (h : PW d M (pc + 2) ls (.int v :: st) σ K) : PW d M pc ls (st) σ K := by
  refine PW.ss ?_ h
  intro p l e R s m args below meth c H locs cells slots Q A hx hb ho ht hA kk
  exact lv_bipush hx hb hd hv (kk A hA)
theorem pw_sipush {n : Int} {v : Int32} (hd : decode M.2.1 pc = .ok (.sipush n, 3)) (hv : (Int16.ofInt n).toInt32 = v) (h : PW d M (pc + 3) ls (.int v :: st) σ K) : PW d M pc ls (st) σ K := by
  refine PW.ss ?_ h
  intro p l e R s m args below meth c H locs cells slots Q A hx hb ho ht hA kk
  exact lv_sipush hx hb hd hv (kk A hA)
theorem pw_null  (hd : decode M.2.1 pc = .ok (.aconst_null, 1)) (h : PW d M (pc + 1) ls (.null :: st) σ K) : PW d M pc ls (st) σ K := by
  refine PW.ss ?_ h
  intro p l e R s m args below meth c H locs cells slots Q A hx hb ho ht hA kk
  exact lv_null hx hb hd (kk A hA)
theorem pw_lconst {n : Fin 2} {v : Int64} (hd : decode M.2.1 pc = .ok (.lconst n, 1)) (hv : Int64.ofNat (n : Nat) = v) (h : PW d M (pc + 1) ls (.long v :: st) σ K) : PW d M pc ls (st) σ K := by
  refine PW.ss ?_ h
  intro p l e R s m args below meth c H locs cells slots Q A hx hb ho ht hA kk
  exact lv_lconst hx hb hd hv (kk A hA)
theorem pw_ldc {i : Nat} {v : Int32} (hd : decode M.2.1 pc = .ok (.ldc i, 2)) (hc : Cond.constant M.1.cls i v ∈ lw_tbl) (h : PW d M (pc + 2) ls (.int v :: st) σ K) : PW d M pc ls (st) σ K := by
  refine PW.ss ?_ h
  intro p l e R s m args below meth c H locs cells slots Q A hx hb ho ht hA kk
  exact lv_ldc hx hb ho (ht _ hc rfl _) hd (kk A hA)
theorem pw_iadd {x y : Int32} (hd : decode M.2.1 pc = .ok (.iadd, 1)) (h : PW d M (pc + 1) ls (.int (x + y) :: st) σ K) : PW d M pc ls (.int y :: .int x :: st) σ K := by
  refine PW.ss ?_ h
  intro p l e R s m args below meth c H locs cells slots Q A hx hb ho ht hA kk
  exact lv_iadd hx hb hd (kk A hA)
theorem pw_isub {x y : Int32} (hd : decode M.2.1 pc = .ok (.isub, 1)) (h : PW d M (pc + 1) ls (.int (x - y) :: st) σ K) : PW d M pc ls (.int y :: .int x :: st) σ K := by
  refine PW.ss ?_ h
  intro p l e R s m args below meth c H locs cells slots Q A hx hb ho ht hA kk
  exact lv_isub hx hb hd (kk A hA)
theorem pw_imul {x y : Int32} (hd : decode M.2.1 pc = .ok (.imul, 1)) (h : PW d M (pc + 1) ls (.int (x * y) :: st) σ K) : PW d M pc ls (.int y :: .int x :: st) σ K := by
  refine PW.ss ?_ h
  intro p l e R s m args below meth c H locs cells slots Q A hx hb ho ht hA kk
  exact lv_imul hx hb hd (kk A hA)
theorem pw_iand {x y : Int32} (hd : decode M.2.1 pc = .ok (.iand, 1)) (h : PW d M (pc + 1) ls (.int (x &&& y) :: st) σ K) : PW d M pc ls (.int y :: .int x :: st) σ K := by
  refine PW.ss ?_ h
  intro p l e R s m args below meth c H locs cells slots Q A hx hb ho ht hA kk
  exact lv_iand hx hb hd (kk A hA)
theorem pw_ior {x y : Int32} (hd : decode M.2.1 pc = .ok (.ior, 1)) (h : PW d M (pc + 1) ls (.int (x ||| y) :: st) σ K) : PW d M pc ls (.int y :: .int x :: st) σ K := by
  refine PW.ss ?_ h
  intro p l e R s m args below meth c H locs cells slots Q A hx hb ho ht hA kk
  exact lv_ior hx hb hd (kk A hA)
theorem pw_ishl {x y : Int32} (hd : decode M.2.1 pc = .ok (.ishl, 1)) (h : PW d M (pc + 1) ls (.int (x <<< (y &&& 31)) :: st) σ K) : PW d M pc ls (.int y :: .int x :: st) σ K := by
  refine PW.ss ?_ h
  intro p l e R s m args below meth c H locs cells slots Q A hx hb ho ht hA kk
  exact lv_ishl hx hb hd (kk A hA)
theorem pw_ishr {x y : Int32} (hd : decode M.2.1 pc = .ok (.ishr, 1)) (h : PW d M (pc + 1) ls (.int (x >>> (y &&& 31)) :: st) σ K) : PW d M pc ls (.int y :: .int x :: st) σ K := by
  refine PW.ss ?_ h
  intro p l e R s m args below meth c H locs cells slots Q A hx hb ho ht hA kk
  exact lv_ishr hx hb hd (kk A hA)
theorem pw_idiv {x y : Int32} (hd : decode M.2.1 pc = .ok (.idiv, 1)) (hy : ¬ y = 0) (h : PW d M (pc + 1) ls (.int (x / y) :: st) σ K) : PW d M pc ls (.int y :: .int x :: st) σ K := by
  refine PW.ss ?_ h
  intro p l e R s m args below meth c H locs cells slots Q A hx hb ho ht hA kk
  exact lv_idiv hx hb hd hy (kk A hA)
theorem pw_irem {x y : Int32} (hd : decode M.2.1 pc = .ok (.irem, 1)) (hy : ¬ y = 0) (h : PW d M (pc + 1) ls (.int (x - x / y * y) :: st) σ K) : PW d M pc ls (.int y :: .int x :: st) σ K := by
  refine PW.ss ?_ h
  intro p l e R s m args below meth c H locs cells slots Q A hx hb ho ht hA kk
  exact lv_irem hx hb hd hy (kk A hA)
theorem pw_i2c {x : Int32} (hd : decode M.2.1 pc = .ok (.i2c, 1)) (h : PW d M (pc + 1) ls (.int (x.toUInt32 % 65536).toInt32 :: st) σ K) : PW d M pc ls (.int x :: st) σ K := by
  refine PW.ss ?_ h
  intro p l e R s m args below meth c H locs cells slots Q A hx hb ho ht hA kk
  exact lv_i2c hx hb hd rfl (kk A hA)
theorem pw_i2l {x : Int32} (hd : decode M.2.1 pc = .ok (.i2l, 1)) (h : PW d M (pc + 1) ls (.long x.toInt64 :: st) σ K) : PW d M pc ls (.int x :: st) σ K := by
  refine PW.ss ?_ h
  intro p l e R s m args below meth c H locs cells slots Q A hx hb ho ht hA kk
  exact lv_i2l hx hb hd rfl (kk A hA)
theorem pw_lcmp {x y : Int64} (hd : decode M.2.1 pc = .ok (.lcmp, 1)) (h : PW d M (pc + 1) ls (.int (lg_cmp x y) :: st) σ K) : PW d M pc ls (.long y :: .long x :: st) σ K := by
  refine PW.ss ?_ h
  intro p l e R s m args below meth c H locs cells slots Q A hx hb ho ht hA kk
  exact W.lcmp hx hb hd (kk A hA)
theorem pw_dup {v : Value} (hd : decode M.2.1 pc = .ok (.dup, 1)) (hv : v.category = 1) (h : PW d M (pc + 1) ls (v :: v :: st) σ K) : PW d M pc ls (v :: st) σ K := by
  refine PW.ss ?_ h
  intro p l e R s m args below meth c H locs cells slots Q A hx hb ho ht hA kk
  exact lv_dup hx hb hd hv (kk A hA)
theorem pw_dup2 {v w : Value} (hd : decode M.2.1 pc = .ok (.dup2, 1)) (hv : v.category = 1) (hw : w.category = 1) (h : PW d M (pc + 1) ls (v :: w :: v :: w :: st) σ K) : PW d M pc ls (v :: w :: st) σ K := by
  refine PW.ss ?_ h
  intro p l e R s m args below meth c H locs cells slots Q A hx hb ho ht hA kk
  exact lv_dup2_11 hx hb hd hv hw (kk A hA)
theorem pw_pop {v : Value} (hd : decode M.2.1 pc = .ok (.pop, 1)) (hv : v.category = 1) (h : PW d M (pc + 1) ls (st) σ K) : PW d M pc ls (v :: st) σ K := by
  refine PW.ss ?_ h
  intro p l e R s m args below meth c H locs cells slots Q A hx hb ho ht hA kk
  exact lv_pop hx hb hd hv (kk A hA)
theorem pw_goto {off : Int} {tgt : Nat} (hd : decode M.2.1 pc = .ok (.goto off, 3)) (ht : (pc : Int) + off = (tgt : Int)) (h : PW d M tgt ls st σ K) : PW d M pc ls st σ K := by
  refine PW.ss ?_ h
  intro p l e R s m args below meth c H locs cells slots Q A hx hb ho htb hA kk
  exact lv_goto hx hb hd ht (kk A hA)
/-- two ways on -/
theorem PW.br {c : Prop} (tgt nxt : Nat) {stk : List Value} (hk : ∀ (p : Program) (l : Launch) (e : Env) (R : Room) (s : State) (m : MethodId) (args : Array Value) (below : List Frame) (meth : Method) (cd : Code) (H : Heap) (locs : List Loc) (cells slots : Nat) (Q : State → Prop) (A : Array Slot),
    p.tables.exec = Jvm.exec → cd.code = M.2.1 → (c → W p l e R s m args below meth cd H locs cells slots Q (F0 m tgt A st)) → (¬ c → W p l e R s m args below meth cd H locs cells slots Q (F0 m nxt A st)) → W p l e R s m args below meth cd H locs cells slots Q (F0 m pc A stk))
    (ht : c → PW d M tgt ls st σ K) (hf : ¬ c → PW d M nxt ls st σ K) : PW d M pc ls stk σ K := by
  intro G p l e R s m args below meth c H locs cells slots A c0 s0 hC hR hA hL h1 h2 h3 h4
  exact hk p l e R s m args below meth c H locs cells slots _ A hC.1 hC.2.1 (fun q => ht q G p l e R s m args below meth c H locs cells slots A c0 s0 hC hR hA hL h1 h2 h3 h4) (fun q => hf q G p l e R s m args below meth c H locs cells slots A c0 s0 hC hR hA hL h1 h2 h3 h4)
theorem pw_if_eq {x : Int32} {off : Int} {tgt : Nat} (hd : decode M.2.1 pc = .ok (.ifCond .eq off, 3)) (htg : (pc : Int) + off = (tgt : Int)) (ht : x = 0 → PW d M tgt ls st σ K) (hf : ¬ (x = 0) → PW d M (pc + 3) ls st σ K) : PW d M pc ls (.int x :: st) σ K :=
  PW.br (c := x = 0) tgt (pc + 3) (fun p l e R s m args below meth cd H locs cells slots Q A hx hb k1 k2 => lv_if_eq hx hb hd htg k1 k2) ht hf
theorem pw_icmp_eq {x y : Int32} {off : Int} {tgt : Nat} (hd : decode M.2.1 pc = .ok (.if_icmp .eq off, 3)) (htg : (pc : Int) + off = (tgt : Int)) (ht : x = y → PW d M tgt ls st σ K) (hf : ¬ (x = y) → PW d M (pc + 3) ls st σ K) : PW d M pc ls (.int y :: .int x :: st) σ K :=
  PW.br (c := x = y) tgt (pc + 3) (fun p l e R s m args below meth cd H locs cells slots Q A hx hb k1 k2 => lv_icmp_eq hx hb hd htg k1 k2) ht hf
theorem pw_if_ne {x : Int32} {off : Int} {tgt : Nat} (hd : decode M.2.1 pc = .ok (.ifCond .ne off, 3)) (htg : (pc : Int) + off = (tgt : Int)) (ht : ¬ x = 0 → PW d M tgt ls st σ K) (hf : x = 0 → PW d M (pc + 3) ls st σ K) : PW d M pc ls (.int x :: st) σ K :=
  PW.br (c := ¬ x = 0) tgt (pc + 3) (fun p l e R s m args below meth cd H locs cells slots Q A hx hb k1 k2 => lv_if_ne hx hb hd htg k1 (fun q => k2 (fun r => r q))) ht (fun q => hf (Classical.not_not.mp q))
theorem pw_icmp_ne {x y : Int32} {off : Int} {tgt : Nat} (hd : decode M.2.1 pc = .ok (.if_icmp .ne off, 3)) (htg : (pc : Int) + off = (tgt : Int)) (ht : ¬ x = y → PW d M tgt ls st σ K) (hf : x = y → PW d M (pc + 3) ls st σ K) : PW d M pc ls (.int y :: .int x :: st) σ K :=
  PW.br (c := ¬ x = y) tgt (pc + 3) (fun p l e R s m args below meth cd H locs cells slots Q A hx hb k1 k2 => lv_icmp_ne hx hb hd htg k1 (fun q => k2 (fun r => r q))) ht (fun q => hf (Classical.not_not.mp q))
theorem pw_if_lt {x : Int32} {off : Int} {tgt : Nat} (hd : decode M.2.1 pc = .ok (.ifCond .lt off, 3)) (htg : (pc : Int) + off = (tgt : Int)) (ht : x < 0 → PW d M tgt ls st σ K) (hf : ¬ (x < 0) → PW d M (pc + 3) ls st σ K) : PW d M pc ls (.int x :: st) σ K :=
  PW.br (c := x < 0) tgt (pc + 3) (fun p l e R s m args below meth cd H locs cells slots Q A hx hb k1 k2 => lv_if_lt hx hb hd htg k1 k2) ht hf
theorem pw_icmp_lt {x y : Int32} {off : Int} {tgt : Nat} (hd : decode M.2.1 pc = .ok (.if_icmp .lt off, 3)) (htg : (pc : Int) + off = (tgt : Int)) (ht : x < y → PW d M tgt ls st σ K) (hf : ¬ (x < y) → PW d M (pc + 3) ls st σ K) : PW d M pc ls (.int y :: .int x :: st) σ K :=
  PW.br (c := x < y) tgt (pc + 3) (fun p l e R s m args below meth cd H locs cells slots Q A hx hb k1 k2 => lv_icmp_lt hx hb hd htg k1 k2) ht hf
theorem pw_if_ge {x : Int32} {off : Int} {tgt : Nat} (hd : decode M.2.1 pc = .ok (.ifCond .ge off, 3)) (htg : (pc : Int) + off = (tgt : Int)) (ht : 0 ≤ x → PW d M tgt ls st σ K) (hf : ¬ (0 ≤ x) → PW d M (pc + 3) ls st σ K) : PW d M pc ls (.int x :: st) σ K :=
  PW.br (c := 0 ≤ x) tgt (pc + 3) (fun p l e R s m args below meth cd H locs cells slots Q A hx hb k1 k2 => lv_if_ge hx hb hd htg k1 k2) ht hf
theorem pw_icmp_ge {x y : Int32} {off : Int} {tgt : Nat} (hd : decode M.2.1 pc = .ok (.if_icmp .ge off, 3)) (htg : (pc : Int) + off = (tgt : Int)) (ht : y ≤ x → PW d M tgt ls st σ K) (hf : ¬ (y ≤ x) → PW d M (pc + 3) ls st σ K) : PW d M pc ls (.int y :: .int x :: st) σ K :=
  PW.br (c := y ≤ x) tgt (pc + 3) (fun p l e R s m args below meth cd H locs cells slots Q A hx hb k1 k2 => lv_icmp_ge hx hb hd htg k1 k2) ht hf
theorem pw_if_gt {x : Int32} {off : Int} {tgt : Nat} (hd : decode M.2.1 pc = .ok (.ifCond .gt off, 3)) (htg : (pc : Int) + off = (tgt : Int)) (ht : 0 < x → PW d M tgt ls st σ K) (hf : ¬ (0 < x) → PW d M (pc + 3) ls st σ K) : PW d M pc ls (.int x :: st) σ K :=
  PW.br (c := 0 < x) tgt (pc + 3) (fun p l e R s m args below meth cd H locs cells slots Q A hx hb k1 k2 => lv_if_gt hx hb hd htg k1 k2) ht hf
theorem pw_icmp_gt {x y : Int32} {off : Int} {tgt : Nat} (hd : decode M.2.1 pc = .ok (.if_icmp .gt off, 3)) (htg : (pc : Int) + off = (tgt : Int)) (ht : y < x → PW d M tgt ls st σ K) (hf : ¬ (y < x) → PW d M (pc + 3) ls st σ K) : PW d M pc ls (.int y :: .int x :: st) σ K :=
  PW.br (c := y < x) tgt (pc + 3) (fun p l e R s m args below meth cd H locs cells slots Q A hx hb k1 k2 => lv_icmp_gt hx hb hd htg k1 k2) ht hf
theorem pw_if_le {x : Int32} {off : Int} {tgt : Nat} (hd : decode M.2.1 pc = .ok (.ifCond .le off, 3)) (htg : (pc : Int) + off = (tgt : Int)) (ht : x ≤ 0 → PW d M tgt ls st σ K) (hf : ¬ (x ≤ 0) → PW d M (pc + 3) ls st σ K) : PW d M pc ls (.int x :: st) σ K :=
  PW.br (c := x ≤ 0) tgt (pc + 3) (fun p l e R s m args below meth cd H locs cells slots Q A hx hb k1 k2 => lv_if_le hx hb hd htg k1 k2) ht hf
theorem pw_icmp_le {x y : Int32} {off : Int} {tgt : Nat} (hd : decode M.2.1 pc = .ok (.if_icmp .le off, 3)) (htg : (pc : Int) + off = (tgt : Int)) (ht : x ≤ y → PW d M tgt ls st σ K) (hf : ¬ (x ≤ y) → PW d M (pc + 3) ls st σ K) : PW d M pc ls (.int y :: .int x :: st) σ K :=
  PW.br (c := x ≤ y) tgt (pc + 3) (fun p l e R s m args below meth cd H locs cells slots Q A hx hb k1 k2 => lv_icmp_le hx hb hd htg k1 k2) ht hf
theorem pw_ifnull {v : Option Nat} {off : Int} {tgt : Nat} (hd : decode M.2.1 pc = .ok (.ifnull off, 3)) (htg : (pc : Int) + off = (tgt : Int)) (ht : v = none → PW d M tgt ls st σ K) (hf : ¬ v = none → PW d M (pc + 3) ls st σ K) : PW d M pc ls (va_rf v :: st) σ K :=
  PW.br tgt (pc + 3) (fun p l e R s m args below meth cd H locs cells slots Q A hx hb k1 k2 => by
    cases v with
    | none => exact lv_ifnullN hx hb hd htg (k1 rfl)
    | some a => exact lv_ifnull hx hb hd (k2 (fun q => by cases q))) ht hf
theorem pw_ifnonnull {v : Option Nat} {off : Int} {tgt : Nat} (hd : decode M.2.1 pc = .ok (.ifnonnull off, 3)) (htg : (pc : Int) + off = (tgt : Int)) (ht : ¬ v = none → PW d M tgt ls st σ K) (hf : v = none → PW d M (pc + 3) ls st σ K) : PW d M pc ls (va_rf v :: st) σ K :=
  PW.br (c := ¬ v = none) tgt (pc + 3) (fun p l e R s m args below meth cd H locs cells slots Q A hx hb k1 k2 => by
    cases v with
    | none => exact lv_ifnonnullN hx hb hd (k2 (fun q => q rfl))
    | some a => exact lv_ifnonnull hx hb hd htg (k1 (fun q => by cases q))) ht (fun q => hf (Classical.not_not.mp q))
theorem pw_tableOut {dflt lo hi : Int} {offs : Array Int} {len : Nat} {x : Int32} {tgt : Nat} (hd : decode M.2.1 pc = .ok (.tableswitch dflt lo hi offs, len)) (hr : x.toInt < lo ∨ hi < x.toInt) (ht : (pc : Int) + dflt = (tgt : Int)) (h : PW d M tgt ls st σ K) : PW d M pc ls (.int x :: st) σ K := by
  refine PW.ss ?_ h
  intro p l e R s m args below meth c H locs cells slots Q A hx hb ho htb hA kk
  exact lv_tableOut hx hb hd hr ht (kk A hA)
theorem pw_tableIn {dflt lo hi : Int} {offs : Array Int} {len : Nat} {x : Int32} {off : Int} {tgt : Nat} (hd : decode M.2.1 pc = .ok (.tableswitch dflt lo hi offs, len)) (h1 : ¬ x.toInt < lo) (h2 : ¬ hi < x.toInt) (ho : offs[(x.toInt - lo).toNat]? = some off) (ht : (pc : Int) + off = (tgt : Int)) (h : PW d M tgt ls st σ K) : PW d M pc ls (.int x :: st) σ K := by
  refine PW.ss ?_ h
  intro p l e R s m args below meth c H locs cells slots Q A hx hb how htb hA kk
  exact lv_tableIn hx hb hd h1 h2 ho ht (kk A hA)
end Rules
