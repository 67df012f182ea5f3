/-! ===== rules of the pure walk: fields ===== -/
/-- two pure heaps say the same of the cell at q -/
def Ag (σ σ' : PH) (q : Nat) : Prop := sh σ' q = sh σ q ∧ (∀ f, gI σ' f q = gI σ f q) ∧ (∀ f, gR σ' f q = gR σ f q) ∧ (∀ j, eI σ' q j = eI σ q j) ∧ (∀ j, eR σ' q j = eR σ q j) ∧ ∀ j, eL σ' q j = eL σ q j
theorem fv_ag {σ σ' : PH} {q : Nat} (h : Ag σ σ' q) (c k : Nat) : fv σ' c q k = fv σ c q k := by
  unfold fv
  rw [h.2.1, h.2.2.1]
theorem av_ag {σ σ' : PH} {q : Nat} (h : Ag σ σ' q) (k j : Nat) : av σ' k q j = av σ k q j := by
  unfold av
  rw [h.2.2.2.1, h.2.2.2.2.1, h.2.2.2.2.2]
theorem AR.kept {U : State} {H H1 : Heap} {a : Nat} {t : FieldType} {n : Nat} {v w : Nat → Value} (h : AR U H a t n v) (h1 : H1[a]? = H[a]?) (hv : ∀ j, w j = v j) : AR U H1 a t n w := by
  obtain ⟨cell, q1, q2, q3, q4, q5, q6⟩ := h
  exact ⟨cell, by rw [h1]; exact q1, q2, q3, q4, fun j hj => by rw [hv]; exact q5 j hj, q6⟩
theorem RA.ag {G : WG} {σ σ' : PH} {U : State} {H H1 : Heap} {q : Nat} (hg : Ag σ σ' q) (h1 : H1[q]? = H[q]?) (h : RA G σ U H q) : RA G σ' U H1 q := by
  unfold RA at h ⊢
  rw [hg.1]
  split at h
  · exact fun e => ⟨(h e).1, by rw [hg.2.2.1]; exact (h e).2.kept h1⟩
  · exact ⟨h.1, h.2.1, (h.2.2.kept h1).to (fun k _ => (fv_ag hg _ k).symm)⟩
  · exact ⟨h.1, h.2.1, h.2.2.1, h.2.2.2.kept h1 (fun j => av_ag hg _ j)⟩
theorem RA.lt {G : WG} {σ : PH} {U : State} {H : Heap} {q : Nat} (h : RA G σ U H q) (h0 : (sh σ q).1 ≠ 0) : q < H.size := by
  unfold RA at h
  split at h
  · contradiction
  · obtain ⟨-, -, cell, h2, -⟩ := h
    exact (Array.getElem?_eq_some_iff.mp h2).1
  · obtain ⟨-, -, -, cell, h2, -⟩ := h
    exact (Array.getElem?_eq_some_iff.mp h2).1
theorem TXT.ag {G : WG} {σ σ' : PH} (h : TXT G σ) (hg : ∀ q, q < G.1 → Ag σ σ' q) : TXT G σ' := by
  obtain ⟨a, v, h1, h2, h3, h4, h5, h6, h7⟩ := h
  exact ⟨a, v, h1, h2, h3, by rw [(hg a h2).1]; exact h4, by rw [(hg a h2).2.2.1]; exact h5, by rw [(hg v h3).1]; exact h6, fun j hj => by rw [(hg v h3).2.2.2.1]; exact h7 j hj⟩
/-- one cell changes -/
theorem Rep.set {G : WG} {σ σ' : PH} {U : State} {H H1 : Heap} {a : Nat} (h : Rep G σ U H) (hb : bs σ' = bs σ) (hc : cc σ' = cc σ) (hcs : cs σ' = cs σ) (hlo : G.1 ≤ a) (hg : ∀ q, q ≠ a → Ag σ σ' q) (hz : H1.size = H.size) (ho : ∀ q, q ≠ a → H1[q]? = H[q]?) (ha : RA G σ' U H1 a) : Rep G σ' U H1 := by
  refine ⟨fun q => ?_, ?_, ?_, by rw [hc]; exact h.2.2.2.1, by rw [hcs]; exact h.2.2.2.2.1, fun q hq => (ho q (by omega)).trans (h.2.2.2.2.2.1 q hq), h.2.2.2.2.2.2.ag (fun q hq => hg q (by omega))⟩
  · by_cases hq : q = a
    · rw [hq]; exact ha
    · exact (h.1 q).ag (hg q hq) (ho q hq)
  · rw [hz, h.2.1]; unfold nx; rw [hb, hc]
  · rw [hb]; exact h.2.2.1
theorem Ag.pI {σ : PH} {f a q : Nat} {v : Int32} (h : q ≠ a) : Ag σ (pI σ f a v) q := ⟨rfl, fun g => by show up2 (gI σ) f a v g q = _; unfold up2; rw [if_neg (fun e => h e.2)], fun _ => rfl, fun _ => rfl, fun _ => rfl, fun _ => rfl⟩
theorem Ag.pR {σ : PH} {f a q : Nat} {v : Option Nat} (h : q ≠ a) : Ag σ (pR σ f a v) q := ⟨rfl, fun _ => rfl, fun g => by show up2 (gR σ) f a v g q = _; unfold up2; rw [if_neg (fun e => h e.2)], fun _ => rfl, fun _ => rfl, fun _ => rfl⟩
theorem Ag.uI {σ : PH} {a j q : Nat} {v : Int32} (h : q ≠ a) : Ag σ (uI σ a j v) q := ⟨rfl, fun _ => rfl, fun _ => rfl, fun i => by show up2 (eI σ) a j v q i = _; unfold up2; rw [if_neg (fun e => h e.1)], fun _ => rfl, fun _ => rfl⟩
theorem Ag.uR {σ : PH} {a j q : Nat} {v : Option Nat} (h : q ≠ a) : Ag σ (uR σ a j v) q := ⟨rfl, fun _ => rfl, fun _ => rfl, fun _ => rfl, fun i => by show up2 (eR σ) a j v q i = _; unfold up2; rw [if_neg (fun e => h e.1)], fun _ => rfl⟩
theorem Ag.uL {σ : PH} {a j q : Nat} {v : Int64} (h : q ≠ a) : Ag σ (uL σ a j v) q := ⟨rfl, fun _ => rfl, fun _ => rfl, fun _ => rfl, fun _ => rfl, fun i => by show up2 (eL σ) a j v q i = _; unfold up2; rw [if_neg (fun e => h e.1)]⟩
theorem Ag.bump {σ : PH} {k n q : Nat} : Ag σ (bump σ k n) q := ⟨rfl, fun _ => rfl, fun _ => rfl, fun _ => rfl, fun _ => rfl, fun _ => rfl⟩
/-- the link of a field access: own, or of a nest mate -/
def FL (own : String) (i c k : Nat) : Prop := c < 12 ∧ k < clF c ∧ (Cond.fieldLink own i (clT c k).1 (clT c k).2.1 (clT c k).2.2.1 ∈ lw_tbl ∨ ∃ host : String, Cond.fieldLinkNest own i (clT c k).1 (clT c k).2.1 (clT c k).2.2.1 host ∈ lw_tbl)
theorem u_lay_good {C : String} {T : u_T} {k : Nat} : okW (u_lay C T k) = true := by
  unfold u_lay
  split <;> rfl
theorem TB.lays {s : State} (h : TB s) {c : Nat} (hc : c < 12) (args : Array Value) : ∀ w ∈ u_ws (clN c) (clT c) (clF c), w.before args s = true := by
  intro w hw
  refine h w (cl_in c hc w hw) ?_ args
  obtain ⟨k, -, rfl⟩ := List.mem_map.mp hw
  exact u_lay_good
section Heap
variable {d : Nat} {M : MI} {pc : Nat} {ls st : List Value} {σ : PH} {K : PO → PH → Prop}
theorem RA.obj {G : WG} {U : State} {H : Heap} {a c : Nat} (h : RA G σ U H a) (hs : sh σ a = (1, c)) : G.1 ≤ a ∧ c < 12 ∧ t_OB a (G.2.1 c) (clF c) (G.2.2.1 c) H (fv σ c a) := by
  unfold RA at h
  rw [hs] at h
  exact h
theorem pw_getf {a c k i : Nat} (hd : decode M.2.1 pc = .ok (.getfield i, 3)) (hf : FL M.1.cls i c k) (hs : sh σ a = (1, c)) (h : PW d M (pc + 3) ls (fv σ c a k :: st) σ K) : PW d M pc ls (.ref a :: st) σ K := by
  intro G p l e R s m args below meth cd H locs cells slots A c0 s0 hC hR hA hL h1 h2 h3 h4
  have hk := h G p l e R s m args below meth cd H locs cells slots A c0 s0 hC hR hA hL h1 h2 h3 h4
  obtain ⟨hx, hb, hml, hr, hlk, hnm, hfr, hlo, hTB, hKN, hmm, hex, hGK, hWs, hfl⟩ := hC
  obtain ⟨-, hc, cell, q1, q2, q3, q4⟩ := (hR.1 a).obj hs
  obtain ⟨-, hkl, hlink⟩ := hf
  obtain ⟨hS, hfc, kC, hkC, hkind⟩ := hKN c hc
  obtain ⟨cf, kf, fi, f, hi, hsl⟩ := hS k hkl
  have hown := findClass_of_methodNamed hnm
  have hst := (u_facts hfc hkC (u_lays (hTB.lays hc args) (fun w hw => hw) hkl) hi).1
  have hv : cell.slots[f.slot]? = some (fv σ c a k) := by rw [hsl]; exact q4 k hkl
  rcases hlink with hlink | ⟨host, hlink⟩
  · exact W.getf hx hb hown (hTB _ hlink rfl args) hi hst q1 (by rw [q3]; exact fun h => by cases h) hv rfl rfl hd hk
  · exact va_Wgetf hx hb hown (hTB _ hlink rfl args) hi hst q1 (by rw [q3]; exact fun h => by cases h) hv rfl rfl hd hk
theorem pw_getI {a c k i f : Nat} (hd : decode M.2.1 pc = .ok (.getfield i, 3)) (hf : FL M.1.cls i c k) (ht : isR (clY c k) = false) (he : 64 * c + k = f) (hs : sh σ a = (1, c)) (h : PW d M (pc + 3) ls (.int (gI σ f a) :: st) σ K) : PW d M pc ls (.ref a :: st) σ K := by
  subst he
  refine pw_getf hd hf hs ?_
  unfold fv
  rw [ht, if_neg (by decide)]
  exact h
theorem pw_getR {a c k i f : Nat} (hd : decode M.2.1 pc = .ok (.getfield i, 3)) (hf : FL M.1.cls i c k) (ht : isR (clY c k) = true) (he : 64 * c + k = f) (hs : sh σ a = (1, c)) (h : PW d M (pc + 3) ls (va_rf (gR σ f a) :: st) σ K) : PW d M pc ls (.ref a :: st) σ K := by
  subst he
  refine pw_getf hd hf hs ?_
  unfold fv
  rw [if_pos ht]
  exact h
theorem cl_apart {G : WG} {s : State} (hTB : TB s) (hKN : KN G s) {c : Nat} (hc : c < 12) : ∀ x y, x < clF c → y < clF c → x ≠ y → G.2.2.1 c x ≠ G.2.2.1 c y := by
  intro x y hx hy hne
  obtain ⟨hS, -⟩ := hKN c hc
  obtain ⟨_, _, _, fa, hia, ea⟩ := hS x hx
  obtain ⟨_, _, _, fb, hib, eb⟩ := hS y hy
  rw [← ea, ← eb]
  refine u_apart (u_lays (hTB.lays hc #[]) (fun w hw => hw) hx) (u_lays (hTB.lays hc #[]) (fun w hw => hw) hy) hia hib ?_
  rw [(State.fieldFound?_type hia (cl_ty c hc x hx)).1, (State.fieldFound?_type hib (cl_ty c hc y hy)).1]
  exact cl_nm c hc x hx y hy hne
/-- a field gets v: σ' is the heap then -/
theorem pw_putf {σ' : PH} {a c k i : Nat} {v : Value} (hd : decode M.2.1 pc = .ok (.putfield i, 3)) (hf : FL M.1.cls i c k) (hfin : (clT c k).2.2.2 = false ∨ ((clT c k).2.2.2 = true ∧ M.1.name = "<init>" ∧ M.1.cls = clN c ∧ Cond.fieldLink M.1.cls i (clT c k).1 (clT c k).2.1 (clT c k).2.2.1 ∈ lw_tbl)) (hs : sh σ a = (1, c))
    (hn : narrow (clY c k) v = v) (hfit : fits (clY c k) v = true)
    (e1 : bs σ' = bs σ) (e2 : cc σ' = cc σ) (e3 : cs σ' = cs σ) (e4 : ∀ q, q ≠ a → Ag σ σ' q) (e5 : sh σ' a = (1, c)) (e6 : ∀ j, j < clF c → fv σ' c a j = updV (fv σ c a) k v j)
    (h : PW d M (pc + 3) ls st σ' K) : PW d M pc ls (v :: .ref a :: st) σ K := by
  intro G p l e R s m args below meth cd H locs cells slots A c0 s0 hC hR hA hL h1 h2 h3 h4
  have hk : ∀ (H' : Heap) (locs' : List Loc), Rep G σ' s H' → (∀ q ∈ locs', G.1 ≤ q.base) → _ := fun H' locs' hR' hL' => h G p l e R s m args below meth cd H' locs' cells slots A c0 s0 hC hR' hA hL' (by rw [e2]; exact h1) (by rw [e3]; exact h2) h3 h4
  obtain ⟨hx, hb, hml, hr, hlk, hnm, hfr, hlo, hTB, hKN, hmm, hex, hGK, hWs, hfl⟩ := hC
  obtain ⟨hbase, hc, cell, q1, q2, q3, q4⟩ := (hR.1 a).obj hs
  obtain ⟨-, hkl, hlink⟩ := hf
  obtain ⟨hS, hfc, kC, hkC, hkind⟩ := hKN c hc
  obtain ⟨cf, kf, fi, f, hi, hsl⟩ := hS k hkl
  have hown := findClass_of_methodNamed hnm
  have hst := (u_facts hfc hkC (u_lays (hTB.lays hc args) (fun w hw => hw) hkl) hi).1
  have hap := cl_apart hTB hKN hc
  have hlt : f.slot < cell.slots.size := by rw [hsl]; exact k2_hasslot (q4 k hkl)
  have hlay := hTB.lays hc args _ (u_in_lay hkl)
  have fin : ∀ H' : Heap, H'[a]? = some (cell.setSlot f.slot v) → H'.size = H.size → (∀ q, q ≠ a → H'[q]? = H[q]?) → W p l e R s m args below meth cd H' (locs ++ [⟨a, f.slot⟩]) cells slots (EQ G K below s c0 s0) (F0 m (pc + 3) A st) := by
    intro H' w1 w2 w3
    refine hk H' _ (hR.set e1 e2 e3 hbase e4 w2 w3 ?_) (fun q hq => ?_)
    · unfold RA
      rw [e5]
      refine ⟨hbase, hc, t_OB.to (V := updV (fv σ c a) k v) ⟨_, w1, q2, q3, ?_⟩ (fun j hj => (e6 j hj).symm)⟩
      rw [hsl]
      exact t_set q4 hap hkl v
    · rcases List.mem_append.mp hq with hq | hq
      · exact hL q hq
      · rw [List.mem_singleton.mp hq]; exact hbase
  unfold u_lay at hlay
  rcases hfin with hfin | ⟨hfin, hinit, hcn, hfl⟩
  · rw [if_neg (by rw [hfin]; decide)] at hlay
    have h6 := u_store hfc hkC hkind hlay hi (cl_ty c hc k hkl) hn hfit
    rcases hlink with hlink | ⟨host, hlink⟩
    · exact W.putK hx hb (f := f) ⟨hown, hTB _ hlink rfl args, ⟨_, _, _, hi⟩, hst⟩ (by rw [q2]; exact h6) q1 q3 hlt rfl rfl hd fin
    · exact va_WputK hx hb (f := f) hown (hTB _ hlink rfl args) hi hst (by rw [q2]; exact h6) q1 q3 hlt rfl rfl hd fin
  · rw [if_pos hfin] at hlay
    have h6 := u_fits hfc hkC hkind (Or.inr hlay) hi (cl_ty c hc k hkl) hn hfit
    have hcf : m.cls = cf := by
      obtain ⟨_, _, c', _, _, _, -, -, hf', -, -, -, hown2, -⟩ := Cond.laysFinal_spec hlay
      have e1 : c' = cf := by have := hi.symm.trans hf'; simp at this; exact this.1.symm
      rw [cl_own c hc k hkl, ← hcn] at hown2
      rw [← e1]; exact Option.some.inj (hown.symm.trans hown2)
    have hin : meth.name = "<init>" := (name_of_methodNamed hnm hmm).1.trans hinit
    exact W.putFinK hx hb hown (hTB _ hfl rfl args) hi hst hcf hin (by rw [q2]; exact h6) q1 q3 hlt rfl rfl hd fin
theorem fv_pI {a c k j : Nat} {v : Int32} (hk : k < 64) (hj : j < 64) (ht : isR (clY c k) = false) : fv (pI σ (64 * c + k) a v) c a j = updV (fv σ c a) k (.int v) j := by
  unfold updV
  by_cases h : j = k
  · subst h
    rw [if_pos rfl]
    unfold fv
    rw [ht, if_neg (by decide)]
    show Value.int (up2 (gI σ) (64 * c + j) a v (64 * c + j) a) = _
    simp [up2]
  · rw [if_neg h]
    unfold fv
    split
    · rfl
    · show Value.int (up2 (gI σ) (64 * c + k) a v (64 * c + j) a) = _
      unfold up2
      rw [if_neg (fun e => h (by omega))]
theorem fv_pR {a c k j : Nat} {v : Option Nat} (hk : k < 64) (hj : j < 64) (ht : isR (clY c k) = true) : fv (pR σ (64 * c + k) a v) c a j = updV (fv σ c a) k (va_rf v) j := by
  unfold updV
  by_cases h : j = k
  · subst h
    rw [if_pos rfl]
    unfold fv
    rw [if_pos ht]
    show va_rf (up2 (gR σ) (64 * c + j) a v (64 * c + j) a) = _
    simp [up2]
  · rw [if_neg h]
    unfold fv
    split
    · show va_rf (up2 (gR σ) (64 * c + k) a v (64 * c + j) a) = _
      unfold up2
      rw [if_neg (fun e => h (by omega))]
    · rfl
theorem clF_lt : ∀ c, c < 12 → clF c ≤ 64 := by decide +kernel
def PF (M : MI) (i c k : Nat) : Prop := (clT c k).2.2.2 = false ∨ ((clT c k).2.2.2 = true ∧ M.1.name = "<init>" ∧ M.1.cls = clN c ∧ Cond.fieldLink M.1.cls i (clT c k).1 (clT c k).2.1 (clT c k).2.2.1 ∈ lw_tbl)
theorem pw_putI {a c k i f : Nat} {x : Int32} (hd : decode M.2.1 pc = .ok (.putfield i, 3)) (hf : FL M.1.cls i c k) (hfin : PF M i c k) (ht : clY c k = .int) (he : 64 * c + k = f) (hs : sh σ a = (1, c)) (h : PW d M (pc + 3) ls st (pI σ f a x) K) : PW d M pc ls (.int x :: .ref a :: st) σ K := by
  subst he
  have hr : isR (clY c k) = false := by rw [ht]; rfl
  have h64 := clF_lt c hf.1
  have hkl := hf.2.1
  exact pw_putf (σ' := pI σ (64 * c + k) a x) hd hf hfin hs (by rw [ht]; rfl) (by rw [ht]; rfl) rfl rfl rfl (fun q hq => Ag.pI hq) hs (fun j hj => fv_pI (by omega) (by omega) hr) h
/-- 0 or 1 -/
def bo (x : Int32) : Prop := x = 0 ∨ x = 1
theorem pw_putZ {a c k i f : Nat} {x : Int32} (hd : decode M.2.1 pc = .ok (.putfield i, 3)) (hf : FL M.1.cls i c k) (hfin : PF M i c k) (ht : clY c k = .boolean) (he : 64 * c + k = f) (hs : sh σ a = (1, c)) (hx : bo x) (h : PW d M (pc + 3) ls st (pI σ f a x) K) : PW d M pc ls (.int x :: .ref a :: st) σ K := by
  subst he
  have hr : isR (clY c k) = false := by rw [ht]; rfl
  have h64 := clF_lt c hf.1
  have hkl := hf.2.1
  refine pw_putf (σ' := pI σ (64 * c + k) a x) hd hf hfin hs (by rw [ht]; rcases hx with rfl | rfl <;> rfl) (by rw [ht]; rcases hx with rfl | rfl <;> rfl) rfl rfl rfl (fun q hq => Ag.pI hq) hs (fun j hj => fv_pI (by omega) (by omega) hr) h
theorem pw_putR {a c k i f : Nat} {v : Option Nat} (hd : decode M.2.1 pc = .ok (.putfield i, 3)) (hf : FL M.1.cls i c k) (hfin : PF M i c k) (ht : isR (clY c k) = true) (he : 64 * c + k = f) (hs : sh σ a = (1, c)) (h : PW d M (pc + 3) ls st (pR σ f a v) K) : PW d M pc ls (va_rf v :: .ref a :: st) σ K := by
  subst he
  have h64 := clF_lt c hf.1
  have hkl := hf.2.1
  refine pw_putf (σ' := pR σ (64 * c + k) a v) hd hf hfin hs ?_ ?_ rfl rfl rfl (fun q hq => Ag.pR hq) hs (fun j hj => fv_pR (by omega) (by omega) ht) h
  · cases hY : clY c k <;> cases v <;> first | rfl | (rw [hY] at ht; cases ht)
  · cases hY : clY c k <;> cases v <;> first | rfl | (rw [hY] at ht; cases ht)
end Heap
