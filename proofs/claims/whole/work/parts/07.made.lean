/-! ===== rules of the pure walk: new cells, ends ===== -/
theorem Ag.mk {σ : PH} {s : Nat × Nat} {n q : Nat} (h : q ≠ nx σ) : Ag σ (mk σ s n) q := by
  refine ⟨?_, fun f => ?_, fun f => ?_, fun j => ?_, fun j => ?_, fun j => ?_⟩
  · show up1 (sh σ) (nx σ) s q = _
    unfold up1; rw [if_neg h]
  · show zr2 (gI σ) (nx σ) 0 f q = _
    unfold zr2; rw [if_neg h]
  · show zr2 (gR σ) (nx σ) none f q = _
    unfold zr2; rw [if_neg h]
  · show zr1 (eI σ) (nx σ) 0 q j = _
    unfold zr1; rw [if_neg h]
  · show zr1 (eR σ) (nx σ) none q j = _
    unfold zr1; rw [if_neg h]
  · show zr1 (eL σ) (nx σ) 0 q j = _
    unfold zr1; rw [if_neg h]
theorem sh_mk {σ : PH} {s : Nat × Nat} {n : Nat} : sh (mk σ s n) (nx σ) = s := by
  show up1 (sh σ) (nx σ) s (nx σ) = _
  unfold up1; rw [if_pos rfl]
theorem Rep.push {G : WG} {σ : PH} {s : Nat × Nat} {n : Nat} {U : State} {H H1 : Heap} (h : Rep G σ U H) (h1 : cc σ + 1 ≤ 601024) (h2 : cs σ + n ≤ 7293034) (hz : H1.size = H.size + 1) (ho : ∀ q, q < H.size → H1[q]? = H[q]?) (ha : RA G (mk σ s n) U H1 (nx σ)) : Rep G (mk σ s n) U H1 := by
  refine ⟨fun q => ?_, ?_, h.2.2.1, h1, h2, fun q hq => (ho q (by rw [h.2.1]; unfold nx; rw [h.2.2.1]; omega)).trans (h.2.2.2.2.2.1 q hq), h.2.2.2.2.2.2.ag (fun q hq => Ag.mk (by unfold nx; rw [h.2.2.1]; omega))⟩
  · by_cases hq : q = nx σ
    · rw [hq]; exact ha
    · by_cases h0 : (sh σ q).1 = 0
      · have hra := h.1 q
        by_cases hlt : q < H.size
        · exact hra.ag (Ag.mk hq) (ho q hlt)
        · unfold RA at hra ⊢
          rw [(Ag.mk hq).1]
          rw [h0] at hra ⊢
          intro e
          exact absurd (Nat.lt_of_lt_of_le (hra e).1 (by rw [h.2.1]; unfold nx; rw [h.2.2.1]; omega)) hlt
      · exact (h.1 q).ag (Ag.mk hq) (ho q ((h.1 q).lt h0))
  · rw [hz, h.2.1]; show _ = bs σ + (cc σ + 1); unfold nx; omega
theorem cl_dv : ∀ c, c < 12 → ∀ k, k < clF c → (isR (clY c k) = true → defaultValue (clY c k) = .null) ∧ (isR (clY c k) = false → defaultValue (clY c k) = .int 0) := by decide +kernel
section Made
variable {d : Nat} {M : MI} {pc : Nat} {ls st : List Value} {σ : PH} {K : PO → PH → Prop}
theorem pw_new {c i n : Nat} (hd : decode M.2.1 pc = .ok (.new i, 3)) (hc : c < 12) (hl : Cond.classLink M.1.cls i (clN c) ∈ lw_tbl) (hn : clF c = n) (h1 : cc σ + 1 ≤ 601024) (h2 : cs σ + n ≤ 7293034) (h : PW d M (pc + 3) ls (.ref (nx σ) :: st) (mk σ (1, c) n) K) : PW d M pc ls st σ K := by
  intro G p l e R s m args below meth cd H locs cells slots A c0 s0 hC hR hA hL g1 g2 g3 g4
  have hk := fun (H' : Heap) (hR' : Rep G (mk σ (1, c) n) s H') => h G p l e R s m args below meth cd H' locs (cells + 1) (slots + n) A c0 s0 hC hR' hA hL (by show _ = cc σ + 1; omega) (by show _ = cs σ + n; omega) g3 g4
  obtain ⟨hx, hb, hml, hr, hlk, hnm, hfr, hlo, hTB, hKN, hmm, hex, hGK, hWs, hfl⟩ := hC
  subst hn
  have hKn := hKN c hc
  refine W.newcK (h := nx σ) hx hb (findClass_of_methodNamed hnm) (hTB _ hl rfl args) (hTB _ (cl_is c hc).1 rfl args) (hTB _ (cl_is c hc).2 rfl args) rfl hd (by omega) (by omega) hKn.2.1 hR.2.1 fun H1 kC hkC e1 z1 o1 => ?_
  refine hk H1 (hR.push h1 h2 (by rw [z1, hR.2.1]) (fun q hq => o1 q (by rw [← hR.2.1]; exact hq)) ?_)
  unfold RA
  rw [sh_mk]
  refine ⟨?_, hc, (u_born (clY c) (hTB.lays hc args) (fun w hw => hw) hKn hkC e1 (cl_ty c hc)).to (fun k hk => ?_)⟩
  · rw [← hR.2.2.1]; exact Nat.le_add_right _ _
  · have hdv := cl_dv c hc k hk
    unfold fv
    by_cases ht : isR (clY c k) = true
    · rw [if_pos ht, hdv.1 ht]
      show _ = va_rf (zr2 (gR σ) (nx σ) none _ (nx σ))
      unfold zr2; rw [if_pos rfl]; rfl
    · rw [if_neg ht, hdv.2 (by simpa using ht)]
      show _ = Value.int (zr2 (gI σ) (nx σ) 0 _ (nx σ))
      unfold zr2; rw [if_pos rfl]
theorem av_mk {k n j : Nat} {s : Nat × Nat} : av (mk σ s n) k (nx σ) j = if k = 5 then .long 0 else if isR (aT k) = true then .null else .int 0 := by
  unfold av
  have e1 : eL (mk σ s n) (nx σ) j = 0 := by show zr1 (eL σ) (nx σ) 0 (nx σ) j = _; unfold zr1; rw [if_pos rfl]
  have e2 : eR (mk σ s n) (nx σ) j = none := by show zr1 (eR σ) (nx σ) none (nx σ) j = _; unfold zr1; rw [if_pos rfl]
  have e3 : eI (mk σ s n) (nx σ) j = 0 := by show zr1 (eI σ) (nx σ) 0 (nx σ) j = _; unfold zr1; rw [if_pos rfl]
  rw [e1, e2, e3]
  rfl
/-- kinds of arrays of numbers -/
def nk (k : Nat) : Prop := k = 2 ∨ k = 3 ∨ k = 4 ∨ k = 5
theorem pw_newa {at_ : ArrayType} {k N : Nat} (hd : decode M.2.1 pc = .ok (.newarray at_, 2)) (hk : nk k) (ht : newarray.typeOf at_ = aT k) (hw : Cond.arrayClass (aT k) ∈ lw_tbl) (hN : N ≤ 65536) (h1 : cc σ + 1 ≤ 601024) (h2 : cs σ + N ≤ 7293034) (h : PW d M (pc + 2) ls (.ref (nx σ) :: st) (mk σ (k, N) N) K) : PW d M pc ls (.int (nI N) :: st) σ K := by
  intro G p l e R s m args below meth cd H locs cells slots A c0 s0 hC hR hA hL g1 g2 g3 g4
  have hkk := fun (H' : Heap) (hR' : Rep G (mk σ (k, N) N) s H') => h G p l e R s m args below meth cd H' locs (cells + 1) (slots + N) A c0 s0 hC hR' hA hL (by show _ = cc σ + 1; omega) (by show _ = cs σ + N; omega) g3 g4
  obtain ⟨hx, hb, hml, hr, hlk, hnm, hfr, hlo, hTB, hKN, hmm, hex, hGK, hWs, hfl⟩ := hC
  have hcl : (nI N).toNatClampNeg = N := nI_clamp (by omega)
  have hby : N * componentBytes (newarray.typeOf at_) ≤ 536870912 := by
    rw [ht]
    rcases hk with rfl | rfl | rfl | rfl <;> (simp only [aT, componentBytes]; omega)
  refine W.newa hx hb (by rw [ht]; exact hTB _ hw rfl args) rfl hd rfl (nI_pos (by omega)) (by rw [hcl]; exact hby) (by omega) (by rw [hcl]; omega) fun cA kA comp f1 f2 f3 => ?_
  rw [hcl, ht, hR.2.1]
  have hpush : ∀ x : Cell, (H.push x)[nx σ]? = some x := fun x => by rw [← hR.2.1]; exact Array.getElem?_push_size
  refine hkk _ (hR.push h1 h2 (Array.size_push ..) (fun q hq => by rw [Array.getElem?_push, if_neg (Nat.ne_of_lt hq)]) ?_)
  refine RA.ofArr (n := N) (by rcases hk with rfl | rfl | rfl | rfl <;> decide) sh_mk ⟨by rcases hk with rfl | rfl | rfl | rfl <;> decide, fun _ => by rw [← hR.2.2.1]; exact Nat.le_add_right _ _, by omega, _, hpush _, ⟨(fun k h => by cases h), kA, f2, comp, by rw [← ht]; exact f3⟩, fun h => (by cases h), by simp, fun j hj => ?_, fun q => ?_⟩
  · rw [av_mk]
    rcases hk with rfl | rfl | rfl | rfl <;> simp [hj, aT, isR, defaultValue]
  · rcases hk with rfl | rfl | rfl | rfl <;> cases q
theorem pw_anew {i k N : Nat} (hd : decode M.2.1 pc = .ok (.anewarray i, 3)) (hk : rk k) (hl : Cond.classLink M.1.cls i (clN (aC k)) ∈ lw_tbl) (hw : Cond.arrayOver (.object (clN (aC k))) ∈ lw_tbl) (hN : N ≤ 65536) (h1 : cc σ + 1 ≤ 601024) (h2 : cs σ + N ≤ 7293034) (h : PW d M (pc + 3) ls (.ref (nx σ) :: st) (mk σ (k, N) N) K) : PW d M pc ls (.int (nI N) :: st) σ K := by
  intro G p l e R s m args below meth cd H locs cells slots A c0 s0 hC hR hA hL g1 g2 g3 g4
  have hkk := fun (H' : Heap) (hR' : Rep G (mk σ (k, N) N) s H') => h G p l e R s m args below meth cd H' locs (cells + 1) (slots + N) A c0 s0 hC hR' hA hL (by show _ = cc σ + 1; omega) (by show _ = cs σ + N; omega) g3 g4
  obtain ⟨hx, hb, hml, hr, hlk, hnm, hfr, hlo, hTB, hKN, hmm, hex, hGK, hWs, hfl⟩ := hC
  have hcl : (nI N).toNatClampNeg = N := nI_clamp (by omega)
  refine W.anew hx hb (findClass_of_methodNamed hnm) (hTB _ hl rfl args) (hTB _ hw rfl args) rfl hd rfl (nI_pos (by omega)) (by rw [hcl]; omega) (by omega) (by rw [hcl]; omega) fun cA kA comp f1 f2 f3 f4 => ?_
  rw [hcl, hR.2.1]
  have hpush : ∀ x : Cell, (H.push x)[nx σ]? = some x := fun x => by rw [← hR.2.1]; exact Array.getElem?_push_size
  refine hkk _ (hR.push h1 h2 (Array.size_push ..) (fun q hq => by rw [Array.getElem?_push, if_neg (Nat.ne_of_lt hq)]) ?_)
  refine RA.ofArr (n := N) (rk_2 hk) sh_mk ⟨by rcases hk with rfl | rfl | rfl | rfl <;> decide, fun _ => by rw [← hR.2.2.1]; exact Nat.le_add_right _ _, by omega, _, hpush _, ⟨(fun k h => by cases h), kA, f2, comp, by rw [(rk_N hk).1]; exact f3⟩, fun h => (by cases h), by simp, fun j hj => ?_, fun q => ?_⟩
  · rw [av_mk]
    rcases hk with rfl | rfl | rfl | rfl <;> simp [hj, aT, isR]
  · rw [(rk_N hk).1]
    exact ⟨kA, comp, f2, f3, f4, f1⟩
/-! ends -/
theorem pw_iret {v : Int32} {ty : FieldType} (hd : decode M.2.1 pc = .ok (.ireturn, 1)) (hr : M.2.2.2.1 = some ty) (hn : narrow ty (.int v) = .int v) (h : K (.inl (some (.int v))) σ) : PW d M pc ls [.int v] σ K := by
  intro G p l e R s m args below meth cd H locs cells slots A c0 s0 hC hR hA hL g1 g2 g3 g4
  obtain ⟨hx, hb, hml, hret, hlocks, hnm, hfr, hlo, hTB, hKN, hmm, hex, hGK, hWs, hfl⟩ := hC
  rw [hr] at hret
  intro T hT X
  obtain ⟨fs, hdo, hrun, hended, hW, hframe⟩ := X.leave (v := some (.int v)) (fun h => by rw [hret] at h; cases h)
  have hmeth' : T.vm.method? m = some meth := X.method'
  refine ⟨T.setFrames fs, ?_, .inl (some (.int v)), σ, .returned (some (.int v)), locs, cells, slots, h, hrun, hended, hW, hframe, hL, g1, g2, (by show Rep G σ s T.heap; rw [hT]; exact hR), rfl⟩
  jvm_step X.here [X.here.top, hx, hb, hd, hmeth', hret, hn]
  (try refine ⟨rfl, ?_⟩); (try refine ⟨rfl, ?_⟩)
  first | (intro acts; rw [hdo _ acts rfl rfl rfl]) | rw [hdo _ _ rfl rfl rfl]
  exact Steps.refl _
theorem pw_vret (hd : decode M.2.1 pc = .ok (.return_, 1)) (hr : M.2.2.2.1 = none) (h : K (.inl none) σ) : PW d M pc ls [] σ K := by
  intro G p l e R s m args below meth cd H locs cells slots A c0 s0 hC hR hA hL g1 g2 g3 g4
  obtain ⟨hx, hb, hml, hret, hlocks, hnm, hfr, hlo, hTB, hKN, hmm, hex, hGK, hWs, hfl⟩ := hC
  rw [hr] at hret
  intro T hT X
  obtain ⟨fs, hdo, hrun, hended, hW, hframe⟩ := X.leave (v := none) (fun _ => rfl)
  have hmeth' : T.vm.method? m = some meth := X.method'
  refine ⟨T.setFrames fs, ?_, .inl none, σ, .returned none, locs, cells, slots, h, hrun, hended, hW, hframe, hL, g1, g2, (by show Rep G σ s T.heap; rw [hT]; exact hR), rfl⟩
  jvm_step X.here [X.here.top, hx, hb, hd, hmeth', hret]
  (try refine ⟨rfl, ?_⟩); (try refine ⟨rfl, ?_⟩)
  first | (intro acts; rw [hdo _ acts rfl rfl rfl]) | rw [hdo _ _ rfl rfl rfl]
  exact Steps.refl _
theorem pw_aret {v : Option Nat} {n : String} (hd : decode M.2.1 pc = .ok (.areturn, 1)) (hr : M.2.2.2.1 = some (.object n)) (h : K (.inl (some (va_rf v))) σ) : PW d M pc ls [va_rf v] σ K := by
  intro G p l e R s m args below meth cd H locs cells slots A c0 s0 hC hR hA hL g1 g2 g3 g4
  obtain ⟨hx, hb, hml, hret, hlocks, hnm, hfr, hlo, hTB, hKN, hmm, hex, hGK, hWs, hfl⟩ := hC
  rw [hr] at hret
  intro T hT X
  obtain ⟨fs, hdo, hrun, hended, hW, hframe⟩ := X.leave (v := some (va_rf v)) (fun h => by rw [hret] at h; cases h)
  have hmeth' : T.vm.method? m = some meth := X.method'
  refine ⟨T.setFrames fs, ?_, .inl (some (va_rf v)), σ, .returned (some (va_rf v)), locs, cells, slots, h, hrun, hended, hW, hframe, hL, g1, g2, (by show Rep G σ s T.heap; rw [hT]; exact hR), rfl⟩
  cases v <;>
    (simp only [va_rf] at hdo ⊢
     jvm_step X.here [X.here.top, hx, hb, hd, hmeth', hret]
     (try refine ⟨rfl, ?_⟩); (try refine ⟨rfl, ?_⟩)
     first | (intro acts; rw [hdo _ acts rfl rfl rfl]) | rw [hdo _ _ rfl rfl rfl]
     exact Steps.refl _)
theorem pw_objInit {i : Nat} {a : Nat} (hd : decode M.2.1 pc = .ok (.invokespecial i, 3)) (hl : Cond.methodLink M.1.cls i objectInit ∈ lw_tbl) (hi : Cond.instanceMethod objectInit ∈ lw_tbl) (hc : Cond.code objectInit ⟨#[0xb1]⟩ 1 none ∈ lw_tbl) (hst : (st.map fun v => v.category).sum ≤ 8) (h : PW (d + 1) M (pc + 3) ls st σ K) : PW (d + 1) M pc ls (.ref a :: st) σ K := by
  intro G p l e R s m args below meth cd H locs cells slots A c0 s0 hC hR hA hL g1 g2 g3 g4
  have hk := h G p l e R s m args below meth cd H locs cells slots A c0 s0 hC hR hA hL g1 g2 g3 g4
  obtain ⟨hx, hb, hml, hret, hlocks, hnm, hfr, hlo, hTB, hKN, hmm, hex, hGK, hWs, hfl⟩ := hC
  refine W.objInit hx hb (findClass_of_methodNamed hnm) (hTB _ hl rfl args) (hTB _ hi rfl args) (hTB _ hc rfl args) rfl (by rw [hml]; exact hA.1) rfl hd (by omega) (by show 2 * 0 + _ + 12 ≤ R.locals; omega) hk
end Made
