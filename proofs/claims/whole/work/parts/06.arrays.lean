/-! ===== rules of the pure walk: arrays, new cells ===== -/
section Arrays
variable {d : Nat} {M : MI} {pc : Nat} {ls st : List Value} {σ : PH} {K : PO → PH → Prop}
theorem RA.arr {G : WG} {U : State} {H : Heap} {a k n : Nat} (h : RA G σ U H a) (hk : 2 ≤ k) (hs : sh σ a = (k, n)) : k ≤ 11 ∧ (k < 10 → G.1 ≤ a) ∧ n < 2 ^ 31 ∧ AR U H a (aT k) n (av σ k a) := by
  obtain ⟨j, rfl⟩ : ∃ j, k = j + 2 := ⟨k - 2, by omega⟩
  unfold RA at h
  rw [hs] at h
  exact h
theorem RA.ofArr {G : WG} {U : State} {H : Heap} {a k n : Nat} (hk : 2 ≤ k) (hs : sh σ a = (k, n)) (h : k ≤ 11 ∧ (k < 10 → G.1 ≤ a) ∧ n < 2 ^ 31 ∧ AR U H a (aT k) n (av σ k a)) : RA G σ U H a := by
  obtain ⟨j, rfl⟩ : ∃ j, k = j + 2 := ⟨k - 2, by omega⟩
  unfold RA
  rw [hs]
  exact h
/-- the place that an index names -/
def ix (i : Int32) : Nat := i.toNatClampNeg
theorem ix_nI {n : Nat} (h : n < 2 ^ 31) : ix (nI n) = n := nI_clamp h
theorem ix_lt {i : Int32} {n : Nat} (h : vp_in i n) : ix i < n := Nat.not_le.mp fun q => h (Or.inr q)
/-- an element is read -/
theorem pw_ald {a k n : Nat} {i : Int32} {w : Value} (hs : sh σ a = (k, n)) (hk : 2 ≤ k) (hin : vp_in i n) (hw : av σ k a (ix i) = w)
    (row : ∀ (p : Program) (l : Launch) (e : Env) (R : Room) (s : State) (m : MethodId) (args : Array Value) (below : List Frame) (meth : Method) (cd : Code) (H : Heap) (locs : List Loc) (cells slots : Nat) (Q : State → Prop) (A : Array Slot) (cell : Cell), p.tables.exec = Jvm.exec → cd.code = M.2.1 → H[a]? = some cell → s.isArrayOf cell (aT k) → cell.vm ≠ .unknown → ¬ (i < 0 ∨ cell.slots.size ≤ i.toNatClampNeg) → cell.slots[i.toNatClampNeg]? = some w → W p l e R s m args below meth cd H locs cells slots Q (F0 m (pc + 1) A (w :: st)) → W p l e R s m args below meth cd H locs cells slots Q (F0 m pc A (.int i :: .ref a :: st)))
    (h : PW d M (pc + 1) ls (w :: st) σ K) : PW d M pc ls (.int i :: .ref a :: st) σ K := by
  intro G p l e R s m args below meth cd H locs cells slots A c0 s0 hC hR hA hL h1 h2 h3 h4
  have hkk := h G p l e R s m args below meth cd H locs cells slots A c0 s0 hC hR hA hL h1 h2 h3 h4
  obtain ⟨-, -, -, cell, q1, q2, q3, q4, q5, -⟩ := (hR.1 a).arr hk hs
  refine row p l e R s m args below meth cd H locs cells slots _ A cell hC.1 hC.2.1 q1 q2 q3 (by rw [q4]; exact hin) ?_ hkk
  rw [← hw]
  exact q5 (ix i) (ix_lt hin)
theorem pw_iald {a n : Nat} {i : Int32} (hd : decode M.2.1 pc = .ok (.iaload, 1)) (hs : sh σ a = (2, n)) (hin : vp_in i n) (h : PW d M (pc + 1) ls (.int (eI σ a (ix i)) :: st) σ K) : PW d M pc ls (.int i :: .ref a :: st) σ K :=
  pw_ald hs (by decide) hin rfl (fun p l e R s m args below meth cd H locs cells slots Q A cell hx hb h1 h2 h3 h4 h5 kk => W.iald hx hb h1 h2 h3 h4 h5 rfl rfl hd kk) h
theorem pw_iald0 {a n : Nat} {i : Int32} (hd : decode M.2.1 pc = .ok (.iaload, 1)) (hs : sh σ a = (10, n)) (hin : vp_in i n) (h : PW d M (pc + 1) ls (.int (eI σ a (ix i)) :: st) σ K) : PW d M pc ls (.int i :: .ref a :: st) σ K :=
  pw_ald hs (by decide) hin rfl (fun p l e R s m args below meth cd H locs cells slots Q A cell hx hb h1 h2 h3 h4 h5 kk => W.iald hx hb h1 h2 h3 h4 h5 rfl rfl hd kk) h
theorem pw_cald {a n : Nat} {i : Int32} (hd : decode M.2.1 pc = .ok (.caload, 1)) (hs : sh σ a = (3, n)) (hin : vp_in i n) (h : PW d M (pc + 1) ls (.int (eI σ a (ix i)) :: st) σ K) : PW d M pc ls (.int i :: .ref a :: st) σ K :=
  pw_ald hs (by decide) hin rfl (fun p l e R s m args below meth cd H locs cells slots Q A cell hx hb h1 h2 h3 h4 h5 kk => W.cald hx hb h1 h2 h3 h4 h5 rfl rfl hd kk) h
theorem pw_zald {a n : Nat} {i : Int32} (hd : decode M.2.1 pc = .ok (.baload, 1)) (hs : sh σ a = (4, n)) (hin : vp_in i n) (h : PW d M (pc + 1) ls (.int (eI σ a (ix i)) :: st) σ K) : PW d M pc ls (.int i :: .ref a :: st) σ K :=
  pw_ald hs (by decide) hin rfl (fun p l e R s m args below meth cd H locs cells slots Q A cell hx hb h1 h2 h3 h4 h5 kk => W.zald hx hb h1 h2 h3 h4 h5 rfl rfl hd kk) h
theorem pw_lald {a n : Nat} {i : Int32} (hd : decode M.2.1 pc = .ok (.laload, 1)) (hs : sh σ a = (5, n)) (hin : vp_in i n) (h : PW d M (pc + 1) ls (.long (eL σ a (ix i)) :: st) σ K) : PW d M pc ls (.int i :: .ref a :: st) σ K :=
  pw_ald hs (by decide) hin rfl (fun p l e R s m args below meth cd H locs cells slots Q A cell hx hb h1 h2 h3 h4 h5 kk => W.lald hx hb h1 h2 h3 h4 h5 rfl rfl hd kk) h
/-- kinds of reference arrays -/
def rk (k : Nat) : Prop := k = 6 ∨ k = 7 ∨ k = 8 ∨ k = 9
theorem rk_av {k a j : Nat} (h : rk k) : av σ k a j = va_rf (eR σ a j) := by rcases h with rfl | rfl | rfl | rfl <;> rfl
theorem rk_ty {k : Nat} (h : rk k) : (aT k).isReference = true := by rcases h with rfl | rfl | rfl | rfl <;> rfl
theorem rk_2 {k : Nat} (h : rk k) : 2 ≤ k := by rcases h with rfl | rfl | rfl | rfl <;> decide
theorem pw_aald {a n k : Nat} {i : Int32} (hd : decode M.2.1 pc = .ok (.aaload, 1)) (hk : rk k) (hs : sh σ a = (k, n)) (hin : vp_in i n) (h : PW d M (pc + 1) ls (va_rf (eR σ a (ix i)) :: st) σ K) : PW d M pc ls (.int i :: .ref a :: st) σ K :=
  pw_ald hs (rk_2 hk) hin (rk_av hk) (fun p l e R s m args below meth cd H locs cells slots Q A cell hx hb h1 h2 h3 h4 h5 kk => W.aald hx hb h1 h2 (rk_ty hk) h3 h4 h5 rfl rfl hd kk) h
theorem pw_alen {a n k : Nat} (hd : decode M.2.1 pc = .ok (.arraylength, 1)) (hk : 2 ≤ k) (hs : sh σ a = (k, n)) (h : PW d M (pc + 1) ls (.int (nI n) :: st) σ K) : PW d M pc ls (.ref a :: st) σ K := by
  intro G p l e R s m args below meth cd H locs cells slots A c0 s0 hC hR hA hL h1 h2 h3 h4
  have hkk := h G p l e R s m args below meth cd H locs cells slots A c0 s0 hC hR hA hL h1 h2 h3 h4
  obtain ⟨-, -, -, cell, q1, q2, q3, q4, q5, -⟩ := (hR.1 a).arr hk hs
  exact W.alen hC.1 hC.2.1 q1 q2 (by rw [q4]; rfl) rfl rfl hd hkk
/-- an element is written: σ' is the heap then -/
theorem pw_ast {σ' : PH} {a k n : Nat} {i : Int32} {v w : Value} (hs : sh σ a = (k, n)) (hk : 2 ≤ k) (hk9 : k < 10) (hin : vp_in i n)
    (e1 : bs σ' = bs σ) (e2 : cc σ' = cc σ) (e3 : cs σ' = cs σ) (e4 : ∀ q, q ≠ a → Ag σ σ' q) (e5 : sh σ' a = (k, n)) (e6 : ∀ j, av σ' k a j = if j = ix i then w else av σ k a j)
    (row : ∀ (G : WG) (p : Program) (l : Launch) (e : Env) (R : Room) (s : State) (m : MethodId) (args : Array Value) (below : List Frame) (meth : Method) (cd : Code) (H : Heap) (locs : List Loc) (cells slots : Nat) (Q : State → Prop) (A : Array Slot) (cell : Cell), Rep G σ s H → KN G s → p.tables.exec = Jvm.exec → cd.code = M.2.1 → H[a]? = some cell → s.isArrayOf cell (aT k) → cell.vm ≠ .unknown → ¬ (i < 0 ∨ cell.slots.size ≤ i.toNatClampNeg) → (isR (aT k) = true → va_RA s cell.cls (aT k)) →
      (∀ H' : Heap, H'[a]? = some (cell.setSlot i.toNatClampNeg w) → H'.size = H.size → (∀ q, q ≠ a → H'[q]? = H[q]?) → W p l e R s m args below meth cd H' (locs ++ [⟨a, i.toNatClampNeg⟩]) cells slots Q (F0 m (pc + 1) A st)) → W p l e R s m args below meth cd H locs cells slots Q (F0 m pc A (v :: .int i :: .ref a :: st)))
    (h : PW d M (pc + 1) ls st σ' K) : PW d M pc ls (v :: .int i :: .ref a :: st) σ K := by
  intro G p l e R s m args below meth cd H locs cells slots A c0 s0 hC hR hA hL h1 h2 h3 h4
  obtain ⟨g1, g2, g3, cell, q1, q2, q3, q4, q5, q6⟩ := (hR.1 a).arr hk hs
  refine row G p l e R s m args below meth cd H locs cells slots _ A cell hR hC.2.2.2.2.2.2.2.2.2.1 hC.1 hC.2.1 q1 q2 q3 (by rw [q4]; exact hin) q6 (fun H' w1 w2 w3 => ?_)
  refine h G p l e R s m args below meth cd H' _ cells slots A c0 s0 hC (hR.set e1 e2 e3 (g2 hk9) e4 w2 w3 ?_) hA (fun q hq => ?_) (by rw [e2]; exact h1) (by rw [e3]; exact h2) h3 h4
  · refine RA.ofArr hk e5 ⟨g1, g2, g3, _, w1, q2, q3, by simp [Cell.setSlot, q4], fun j hj => ?_, q6⟩
    rw [e6 j]
    by_cases hj2 : j = ix i
    · rw [if_pos hj2, hj2]
      exact slot_same (by rw [q4]; exact ix_lt hin)
    · rw [if_neg hj2]
      exact (slot_other (fun q => hj2 q.symm)).trans (q5 j hj)
  · rcases List.mem_append.mp hq with hq | hq
    · exact hL q hq
    · rw [List.mem_singleton.mp hq]; exact g2 hk9
/-- a char -/
def ch (x : Int32) : Prop := narrow .char (.int x) = .int x
theorem av_uI {k a j i : Nat} {x : Int32} (h5 : k ≠ 5) (hr : isR (aT k) = false) : av (uI σ a i x) k a j = if j = i then .int x else av σ k a j := by
  have e : ∀ τ : PH, av τ k a j = .int (eI τ a j) := fun τ => by
    unfold av
    rw [if_neg h5, hr, if_neg (by decide)]
  rw [e, e]
  show Value.int (up2 (eI σ) a i x a j) = _
  unfold up2
  by_cases h : j = i
  · rw [if_pos ⟨rfl, h⟩, if_pos h]
  · rw [if_neg (fun e => h e.2), if_neg h]
theorem pw_iast {a n : Nat} {i x : Int32} (hd : decode M.2.1 pc = .ok (.iastore, 1)) (hs : sh σ a = (2, n)) (hin : vp_in i n) (h : PW d M (pc + 1) ls st (uI σ a (ix i) x) K) : PW d M pc ls (.int x :: .int i :: .ref a :: st) σ K :=
  pw_ast (σ' := uI σ a (ix i) x) (w := .int x) hs (by decide) (by decide) hin rfl rfl rfl (fun q hq => Ag.uI hq) hs (fun j => av_uI (by decide) rfl) (fun G p l e R s m args below meth cd H locs cells slots Q A cell _ _ hx hb h1 h2 h3 h4 _ kk => W.iast hx hb h1 h2 h3 h4 rfl rfl hd kk) h
theorem pw_cast {a n : Nat} {i x : Int32} (hd : decode M.2.1 pc = .ok (.castore, 1)) (hs : sh σ a = (3, n)) (hin : vp_in i n) (hc : ch x) (h : PW d M (pc + 1) ls st (uI σ a (ix i) x) K) : PW d M pc ls (.int x :: .int i :: .ref a :: st) σ K :=
  pw_ast (σ' := uI σ a (ix i) x) (w := narrow .char (.int x)) hs (by decide) (by decide) hin rfl rfl rfl (fun q hq => Ag.uI hq) hs (fun j => by rw [hc]; exact av_uI (by decide) rfl) (fun G p l e R s m args below meth cd H locs cells slots Q A cell _ _ hx hb h1 h2 h3 h4 _ kk => W.cast hx hb h1 h2 h3 h4 rfl rfl hd kk) h
theorem bo_nar {x : Int32} (h : bo x) : narrow .boolean (.int x) = .int x := by rcases h with rfl | rfl <;> rfl
theorem pw_zast {a n : Nat} {i x : Int32} (hd : decode M.2.1 pc = .ok (.bastore, 1)) (hs : sh σ a = (4, n)) (hin : vp_in i n) (hc : bo x) (h : PW d M (pc + 1) ls st (uI σ a (ix i) x) K) : PW d M pc ls (.int x :: .int i :: .ref a :: st) σ K :=
  pw_ast (σ' := uI σ a (ix i) x) (w := narrow .boolean (.int x)) hs (by decide) (by decide) hin rfl rfl rfl (fun q hq => Ag.uI hq) hs (fun j => by rw [bo_nar hc]; exact av_uI (by decide) rfl) (fun G p l e R s m args below meth cd H locs cells slots Q A cell _ _ hx hb h1 h2 h3 h4 _ kk => W.zast hx hb h1 h2 h3 h4 rfl rfl hd kk) h
theorem pw_last {a n : Nat} {i : Int32} {x : Int64} (hd : decode M.2.1 pc = .ok (.lastore, 1)) (hs : sh σ a = (5, n)) (hin : vp_in i n) (h : PW d M (pc + 1) ls st (uL σ a (ix i) x) K) : PW d M pc ls (.long x :: .int i :: .ref a :: st) σ K :=
  pw_ast (σ' := uL σ a (ix i) x) (w := .long x) hs (by decide) (by decide) hin rfl rfl rfl (fun q hq => Ag.uL hq) hs (fun j => by
    unfold av
    rw [if_pos rfl, if_pos rfl]
    show Value.long (up2 (eL σ) a (ix i) x a j) = _
    unfold up2
    by_cases h : j = ix i
    · rw [if_pos ⟨rfl, h⟩, if_pos h]
    · rw [if_neg (fun e => h e.2), if_neg h]) (fun G p l e R s m args below meth cd H locs cells slots Q A cell _ _ hx hb h1 h2 h3 h4 _ kk => W.last hx hb h1 h2 h3 h4 rfl rfl hd kk) h
/-- the class of a reference array's elements -/
def aC : Nat → Nat := fun k => match k with
  | 6 => 1
  | 7 => 6
  | 8 => 7
  | _ => 8
theorem rk_N {k : Nat} (h : rk k) : aT k = .object (clN (aC k)) ∧ aC k < 12 := by rcases h with rfl | rfl | rfl | rfl <;> exact ⟨rfl, by decide⟩
theorem pw_aast {a n k : Nat} {i : Int32} {v : Option Nat} (hd : decode M.2.1 pc = .ok (.aastore, 1)) (hk : rk k) (hs : sh σ a = (k, n)) (hin : vp_in i n) (hv : ∀ b, v = some b → sh σ b = (1, aC k)) (h : PW d M (pc + 1) ls st (uR σ a (ix i) v) K) : PW d M pc ls (va_rf v :: .int i :: .ref a :: st) σ K := by
  refine pw_ast (σ' := uR σ a (ix i) v) (w := va_rf v) hs (rk_2 hk) (by rcases hk with rfl | rfl | rfl | rfl <;> decide) hin rfl rfl rfl (fun q hq => Ag.uR hq) hs (fun j => ?_) (fun G p l e R s m args below meth cd H locs cells slots Q A cell hR hKN hx hb h1 h2 h3 h4 h5 kk => ?_) h
  · rw [rk_av hk, rk_av hk]
    show va_rf (up2 (eR σ) a (ix i) v a j) = _
    unfold up2
    by_cases h : j = ix i
    · rw [if_pos ⟨rfl, h⟩, if_pos h]
    · rw [if_neg (fun e => h e.2), if_neg h]
  · have h5 := h5 (by rcases hk with rfl | rfl | rfl | rfl <;> rfl)
    rw [(rk_N hk).1] at h2 h5
    cases v with
    | none => exact va_WaastN (C := clN (aC k)) hx hb h1 h2 h3 h4 rfl rfl hd kk
    | some b =>
      obtain ⟨-, hc, cellV, g1, g2, g3, -⟩ := (hR.1 b).obj (hv b rfl)
      have hcls := (hKN (aC k) hc).2
      obtain ⟨kA, comp, k1, k2, k3, -⟩ := h5
      have hcomp : comp = G.2.1 (aC k) := Option.some.inj (k3.symm.trans hcls.1)
      subst hcomp
      obtain ⟨kC, hkC, -⟩ := hcls.2
      exact W.aast hx hb h1 h2.1 h3 k1 k2 rfl hkC ⟨fun q => h4 (Or.inl q), Nat.not_le.mp fun q => h4 (Or.inr q)⟩ g1 (fun q h => by rw [g3] at h; cases h) (by rw [g2]; exact hkC) (by rw [g2]; exact va_assign hcls) rfl rfl hd kk
end Arrays
