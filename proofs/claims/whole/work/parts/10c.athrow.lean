section AThrow
variable {d : Nat} {M : MI} {pc i ic kd : Nat} {ls st : List Value} {σ : PH} {K : PO → PH → Prop}
theorem Rep.bump1 {G : WG} {U : State} {H H1 : Heap} (h : Rep G σ U H) (h1 : cc σ + 1 ≤ 601024) (h2 : cs σ + 6 ≤ 7293034) (hz : H1.size = H.size + 1) (ho : ∀ q, q < H.size → H1[q]? = H[q]?) : Rep G (bump σ 1 6) U H1 := by
  refine ⟨fun q => ?_, ?_, h.2.2.1, h1, h2, fun q hq => (ho q (by rw [h.2.1]; unfold nx; rw [h.2.2.1]; omega)).trans (h.2.2.2.2.2.1 q hq), h.2.2.2.2.2.2.ag (fun q _ => Ag.bump)⟩
  · by_cases h0 : (sh σ q).1 = 0
    · have hra := h.1 q
      by_cases hlt : q < H.size
      · exact hra.ag Ag.bump (ho q hlt)
      · unfold RA at hra ⊢
        rw [(Ag.bump (σ := σ) (k := 1) (n := 6) (q := q)).1]
        rw [h0] at hra ⊢
        intro e
        exact absurd (Nat.lt_of_lt_of_le (hra e).1 (by rw [h.2.1]; unfold nx; rw [h.2.2.1]; omega)) hlt
    · exact (h.1 q).ag Ag.bump (ho q ((h.1 q).lt h0))
  · rw [hz, h.2.1]; show _ = bs σ + (cc σ + 1); unfold nx; omega
set_option maxHeartbeats 4000000 in
theorem pw_throw (hd0 : decode M.2.1 pc = .ok (.new i, 3)) (hd1 : decode M.2.1 (pc + 3) = .ok (.dup, 1)) (hd2 : decode M.2.1 (pc + 4) = .ok (.invokespecial ic, 3)) (hd3 : decode M.2.1 (pc + 7) = .ok (.athrow, 1))
    (hk : kd < 2) (hcl : Cond.classLink M.1.cls i (exN kd) ∈ lw_tbl) (hw : ∀ w ∈ exW M.1.cls ic kd, w ∈ lw_tbl) (hh : M.2.2.2.2 = []) (h1 : cc σ + 1 ≤ 601024) (h2 : cs σ + 6 ≤ 7293034) (hst : (st.map fun v => v.category).sum ≤ 8) (h : K (.inr kd) (bump σ 1 6)) : PW (d + 6) M pc ls st σ K := by
  intro G p l e R s m args below meth c H locs cells slots A c0 s0 hC hR hA hL g1 g2 g3 g4
  intro T hT X
  subst hT
  obtain ⟨hx, hb, hml, hret, hlocks, hnm, hfr, hlo, hTB, hKN, hmm, hex, hGK, hWs, hfl⟩ := hC
  have X0 := rebase X (by omega) (by omega)
  generalize hs' : T.setFrames s.frames = s' at X0
  have hvm : s'.vm = T.vm := by rw [← hs']; rfl
  have hheap : s'.heap = T.heap := by rw [← hs']; rfl
  have hWT : s.WarmedH s'.vm := by rw [hvm]; exact X.warmed
  have hTB' : TB s' := hTB.moved hWT
  have hnm' : s'.methodNamed? M.1 = some m := by
    have := X.named hnm
    rw [← hs']
    exact this
  have hown' := findClass_of_methodNamed hnm'
  have hW0 : G.2.2.2.WarmedH s'.vm := State.WarmedH.trans hWs hWT
  have hlow : ∀ q, q < G.2.2.2.heap.size → s'.heap[q]? = G.2.2.2.heap[q]? := fun q hq => by
    rw [hheap]
    exact hR.2.2.2.2.2.1 q (by rw [hGK.1]; exact hq)
  obtain ⟨b0, hnar, htb0⟩ := hGK.2
  have hflat := flat_of_before _ hnar
  have hatoms : ∀ w ∈ Bundle.ownAtoms0 M.1.cls ic (exN kd) exS, w.before args s' = true := by
    intro w hwm
    rcases ex_rest M.1.cls ic kd w hwm with hok | rfl | rfl | rfl | rfl
    · exact hTB' w (hw w (List.mem_filter.mpr ⟨hwm, hok⟩)) hok args
    · exact low_lays hW0 hlow (htb0 _ ex_ls.1)
    · exact low_lays hW0 hlow (htb0 _ ex_ls.2)
    · exact low_ref hW0 hlow (hflat _ (by decide +kernel))
    · exact low_ref hW0 hlow (hflat _ (by decide +kernel))
  have htr : e.platform.stackTraces = false := Launch.traces_off hfl X.admits
  have key : W p l e { frames := R.frames, cells := R.cells - cells, slots := R.slots - slots, locals := R.locals } s' m args below meth c T.heap [] 0 0 (EQ G K below s c0 s0) (F0 m pc A st) := by
    refine W.newc hx hb hown' (hTB' _ hcl rfl args) (hTB' _ (ex_is kd hk).1 rfl args) (hTB' _ (ex_is kd hk).2 rfl args) rfl hd0 (by show 0 + 1 ≤ R.cells - cells; omega) (by show 0 + 6 ≤ R.slots - slots; omega) fun cC kC f1 f2 f3 f4 => ?_
    refine lv_dup hx hb hd1 rfl ?_
    intro W0 hW1 XW
    obtain ⟨U, hst1, hrun, hend, hWU, hsame, ce, hce, hOC⟩ := XW.ctorThrow0 hx htr hown' (ex_fit kd hk).1 (ex_fit kd hk).2 hatoms (fun x hx => by cases hx) (a := T.heap.size) f1 f2 (by rw [hW1]; simp) (by rw [hheap]; exact Nat.le_refl _) (g := F0 m (pc + 3 + 1) A (.ref T.heap.size :: .ref T.heap.size :: st)) rfl (hA.1.trans hml.symm) rfl rfl rfl (by rw [hb]; exact hd2) (by rw [hb]; exact hd3) (fun x hx => by rw [hh] at hex; rw [List.map_eq_nil_iff.mp hex] at hx; cases hx) (by show 2 + 3 < R.frames; omega) (by show 2 * 0 + (1 + (st.map fun v => v.category).sum) + (13 * (2 + 1) + 41) ≤ R.locals; omega)
    have hold : ∀ q, q < T.heap.size → U.heap[q]? = T.heap[q]? := fun q hq => by
      have e1 : s'.heap[q]? = some (T.heap[q]) := by rw [hheap]; exact Array.getElem?_eq_getElem hq
      have e2 : U.heap[q]? = some (T.heap[q]) := hsame.old_cell e1
      rw [e2]
      exact (Array.getElem?_eq_getElem hq).symm
    have hsz : U.heap.size = T.heap.size + 1 := by
      have e1 : U.heap.size ≤ s'.heap.size + 1 := hsame.2.2.1
      have e2 : T.heap.size < U.heap.size := (Array.getElem?_eq_some_iff.mp hce).1
      rw [hheap] at e1
      omega
    have hTU : T.sameButNew ({ U with vm := T.vm } : State) [] (0 + 1) (0 + 6) := by
      obtain ⟨w1, w2, w3, w4, w5, w6⟩ := hsame
      rw [hvm] at w1
      refine ⟨?_, by rw [← hheap]; exact w2, by rw [← hheap]; exact w3, ?_, ?_, ?_⟩
      · rw [← hs'] at w1
        have hset : ∀ fs, (T.setFrames s.frames).setFrames fs = T.setFrames fs := fun fs => State.setFrames_setFrames ..
        rw [hset] at w1
        exact w1
      · have e1 : s'.slotsUsed = T.slotsUsed := by rw [← hs']; rfl
        rw [← hheap, ← e1]
        exact w4
      · rw [← hheap]
        exact w5
      · intro a1 c1 hc1
        exact w6 a1 c1 (by rw [hheap]; exact hc1)
    have hWU' : s.WarmedH U.vm := State.WarmedH.trans hWT hWU
    have hsU : s.sameButNew ({ U with vm := s.vm } : State) (locs ++ []) (cells + (0 + 1)) (slots + (0 + 6)) := X.same.trans (hTU.setVm s.vm)
    rw [List.append_nil] at hsU
    refine ⟨U, hst1, .inr kd, bump σ 1 6, .threw T.heap.size, locs, cells + (0 + 1), slots + (0 + 6), h, hrun, hend, hWU', hsU, hL, ?_, ?_, hR.bump1 h1 h2 hsz hold, T.heap.size, ce, rfl, hce, fun z hz => ?_, ?_⟩
    · show _ = cc σ + 1; omega
    · show _ = cs σ + 6; omega
    · rw [hOC.vm] at hz; cases hz
    · have := hOC.cls
      rw [hvm, X.warmed.alike.findClass] at this
      exact this
  exact key T rfl X0
end AThrow
