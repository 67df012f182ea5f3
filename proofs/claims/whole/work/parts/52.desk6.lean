/-! ===== contracts of sign, resubmit, send ===== -/
noncomputable def spResub (S : SP) (i : Nat) : SP × Nat :=
  if flt (S.2.2.1.getD i (0, [])).2 false ≠ 0 then (uK S (S.2.2.1.set i (flt (S.2.2.1.getD i (0, [])).2 false, [])), flt (S.2.2.1.getD i (0, [])).2 false)
  else @ite (SP × Nat) (Lost S (hInd (S.2.2.1.getD i (0, [])).2)) (Classical.propDecidable _) (uK S (S.2.2.1.set i (5, [])), 5) (uK (addM S (S.2.2.1.getD i (0, [])).2) (S.2.2.1.set i (0, [])), 0)
section Desk6
variable {d : Nat} {σ σ' : PH} {K : PO → PH → Prop} {B : Nat} {S : SP}
theorem signN {x : Int32} (h1 : ¬ x < 0) (h2 : x ≤ 31) : ∃ c : Nat, c < 32 ∧ x = nI c := by
  obtain ⟨j, h3, h4⟩ := nI_of2 (M := 31) (n := 31) (by decide) h1 h2
  exact ⟨j, by omega, h4⟩
theorem inkG_lt {g : List Nat} {fg : Bool} {s : Nat} (h : ∀ x ∈ g, x < 128) : ∀ x ∈ inkG g fg s, x < 128 := by
  intro x hx
  unfold inkG at hx
  split at hx
  · exact h x hx
  · rcases List.mem_append.mp hx with q | q
    · exact h x q
    · rw [List.mem_singleton.mp q]; exact chr_lt s fg
theorem k_sign {x y : Int32} {T : Nat} (hC : CR σ B S) (hI : Inv S T) (hR : Rm σ) (hkA : (x < 0 ∨ ¬ x ≤ 7) ∨ (y < 0 ∨ ¬ y ≤ 31) → K (.inr 0) (bump σ 1 6)) (hk : ∀ c s, c < 8 → s < 32 → x = nI c → y = nI s → ∀ σ', CR σ' B (spSign S c s).1 → Fr (dP B) σ σ' → K (.inl (some (.int (spSign S c s).2))) σ') : PW (d + 7) M_Desk_sign 0 [.ref B, .int x, .int y, uu, uu] [] σ K := by
  refine e_Desk_sign_0 B x y (c_needWithin hR (fun h1 h2 => ?_) (fun h => hkA (Or.inl h)))
  refine c_needWithin hR (fun h3 h4 => ?_) (fun h => hkA (Or.inr h))
  obtain ⟨c, hc, rfl⟩ := chanN h1 h2
  obtain ⟨s, hs, rfl⟩ := signN h3 h4
  have hk := hk c s hc hs rfl rfl
  obtain ⟨a1, a2, a3, a4, a5, a6, a7, a8, a9, a10, a11, a12, a13, a14⟩ := hC.1
  obtain ⟨b1, b2, b3, b4, b5, b6, b7, b8⟩ := hC.2.2.2.1 c hc
  have j2 := (hI.2.2.2.1 c hc).2.1
  have hin := b6.out j2
  simp (disch := omega) only [kV_v, a1, a2, a9, kI_i, kI_x, kV_v, kV_x, kR_r, kR_n, kR_x, kHI_i, kHI_0, kHI_1, kHV_v, kHV_0, kHV_1, va_s, va_n, exists_eq_left', exists_eq_left, forall_eq, forall_eq', and_true, true_and, and_self, Option.some.injEq, Prod.mk.injEq, if_tt, if_ff, reduceIte, reduceCtorEq, not_true_eq_false, not_false_eq_true, Nat.reduceAdd, Nat.reduceMul, Nat.reduceSub, Nat.reduceLT, Nat.reduceLeDiff, Nat.reduceEqDiff, false_implies, true_implies, implies_true, in_iff, eq_m1, m1_eq, m1_lt, m1_le, le_m1, lt_m1, eq_m2, m2_m1, m1_m2, add_m1, m1_add, sub_n, mul_n, add_n, bo_n0, bo_n1, ch_n, lt_n, le_n, eq_n, ix_n, i2c_n, rem_n, div_n]
  rw [a10 c hc]
  simp (disch := omega) only [kI_i, kI_x, kV_v, kV_x, kR_r, kR_n, kR_x, kHI_i, kHI_0, kHI_1, kHV_v, kHV_0, kHV_1, va_s, va_n, exists_eq_left', exists_eq_left, forall_eq, forall_eq', and_true, true_and, and_self, Option.some.injEq, Prod.mk.injEq, if_tt, if_ff, reduceIte, reduceCtorEq, not_true_eq_false, not_false_eq_true, Nat.reduceAdd, Nat.reduceMul, Nat.reduceSub, Nat.reduceLT, Nat.reduceLeDiff, Nat.reduceEqDiff, false_implies, true_implies, implies_true, b1, b2, b3, b6.1]
  refine ⟨hc, ?_⟩
  unfold spSign at hk
  by_cases ho : sOp (S.1 c) = false
  · rw [if_pos ho] at hk
    rw [ho, if_pos (by decide)]
    exact hk σ hC Fr.rf
  · rw [if_neg ho] at hk
    have ho : sOp (S.1 c) = true := by simpa using ho
    rw [ho, if_neg (by decide)]
    refine c_Intake_takesEnd hin hs (fun σ1 g1 f1 => ?_)
    simp only [kI_i]
    have fa := f1.ag (q := cA B c) (by unfold iP; omega)
    have fd1 : Fr (dP B) σ σ1 := f1.mo (fun q hq => by unfold iP cA at hq; unfold dP; omega)
    have hC1 : CR σ1 B (uC S c (wIn (S.1 c) (inkG (sG (S.1 c)) (sF (S.1 c)) s) (inkF (sF (S.1 c)) s))) := hC.chan hc (f1.mo (fun q hq => by unfold iP at hq; unfold hP; omega)) ⟨by rw [fa.1]; exact b1, by rw [fa.2.1]; exact b2, by rw [fa.2.2.1]; exact b3, by rw [fa.2.2.1]; exact b4, by rw [fa.2.2.1]; exact b5, g1.w (inkG_lt j2), b7.ag (f1.ag (by unfold iP; omega)) (f1.ag (by unfold iP; omega)), b8.ag (fun q q1 q2 => f1.ag (by unfold iP; omega))⟩
    cases hE : inkE (sG (S.1 c)) (sF (S.1 c)) s with
    | false =>
      rw [hE, if_neg (by decide)] at hk
      rw [if_pos (by decide)]
      exact hk σ1 hC1 fd1
    | true =>
      rw [hE, if_pos rfl] at hk
      rw [if_neg (by decide)]
      have hE' := of_decide_eq_true hE
      have q1 : inkG (sG (S.1 c)) (sF (S.1 c)) s = sG (S.1 c) := by unfold inkG; rw [if_pos (Or.inr (Or.inr (Or.inr hE)))]
      have q2 : inkF (sF (S.1 c)) s = sF (S.1 c) := by unfold inkF; rw [if_neg hE'.1, if_neg hE'.2.1]
      have hC1' : CR σ1 B S := by
        rw [q1, q2] at hC1
        refine hC1.ext (fun z hz => ?_) rfl
        unfold uC
        by_cases hzc : z = c
        · simp [hzc, wIn, sOp, sG, sF, sLa, sMi, sLn, sSd, sOut, sSent, sAsk]
        · simp [hzc]
      refine ⟨hC1'.1.1, k_handIn (g := sG (S.1 c)) hC1' hI hc rfl (fun σ2 h2 f2 => ?_)⟩
      simp only [kI_i]
      have fd2 := fd1.tr f2
      generalize hand S c (inkT (sG (S.1 c))) (decide (60 < lnS (sG (S.1 c)))) = H at hk h2
      generalize inkT (sG (S.1 c)) = xs at h2
      obtain ⟨c1, c2, c3, c4, c5, c6, c7, c8⟩ := h2.2.2.2.1 c hc
      obtain ⟨i1, i2, ys, i3, i4, i5⟩ := c6
      simp only [kI_i, kI_x, kV_v, kV_x, kR_r, kR_n, kR_x, kHI_i, kHI_0, kHI_1, kHV_v, kHV_0, kHV_1, va_s, va_n, exists_eq_left', exists_eq_left, forall_eq, forall_eq', and_true, true_and, and_self, Option.some.injEq, Prod.mk.injEq, if_tt, if_ff, reduceIte, reduceCtorEq, not_true_eq_false, not_false_eq_true, Nat.reduceAdd, Nat.reduceMul, Nat.reduceSub, Nat.reduceLT, Nat.reduceLeDiff, Nat.reduceEqDiff, false_implies, true_implies, implies_true, c1, c3, i1]
      refine c_Intake_begin i1 i2 i3 (fun σ3 g3 f3 => ?_)
      simp only [kV_v]
      have fa3 := f3.ag (q := cA B c) (by unfold iP; omega)
      have e : (mkd H.1 c xs).1 c = wIn (H.1.1 c) (200 :: xs) (sF (H.1.1 c)) := if_pos rfl
      rw [e] at c2 c7 c8
      have := h2.chan (s := wIn (H.1.1 c) [] false) hc (f3.mo (fun q hq => by unfold iP at hq; unfold hP; omega)) ⟨by rw [fa3.1]; exact c1, by rw [fa3.2.1]; exact c2, by rw [fa3.2.2.1]; exact c3, by rw [fa3.2.2.1]; exact c4, by rw [fa3.2.2.1]; exact c5, g3.w (fun z hz => by cases hz), c7.ag (f3.ag (by unfold iP; omega)) (f3.ag (by unfold iP; omega)), c8.ag (fun q q1 q2 => f3.ag (by unfold iP; omega))⟩
      refine hk σ3 (this.ext (fun z hz => ?_) rfl) (fd2.tr (f3.mo (fun q hq => by unfold iP cA at hq; unfold dP; omega)))
      unfold mkd uC
      by_cases hzc : z = c
      · simp [hzc]
      · simp [hzc]
/-- the last steps of resubmit -/
theorem resub_end {i f : Nat} {σ0 : PH} (hC : CR σ B S) (hi : i < S.2.2.1.length) (hN : S.2.2.1.length ≤ 6) (hf : f ≤ 5) (hd : Fr (dP B) σ0 σ) (hk : ∀ σ', CR σ' B (uK S (S.2.2.1.set i (f, []))) → Fr (dP B) σ0 σ' → K (.inl (some (.int (nI f)))) σ') : sh σ (B + 170 + 3 * i) = (1, 7) ∧ ∃ b7 : Nat, gR σ 449 (B + 170 + 3 * i) = some b7 ∧ sh σ b7 = (1, 3) ∧ PW d M_Text_clear 0 [.ref b7] [] σ (kV (fun σ7 => sh σ7 (B + 170 + 3 * i) = (1, 7) ∧ (∀ σ8 : PH, σ8 = pI σ7 448 (B + 170 + 3 * i) (nI f) → K (.inl (some (.int (nI f)))) σ8)) K) := by
  obtain ⟨m1, m2, m3, m4, m5⟩ := hC.2.2.2.2.2 i (by omega)
  refine ⟨m1, _, m2, m5.1, c_Text_clear m5 (fun σ1 g1 f1 => ?_)⟩
  have fa := f1.ag (q := B + 170 + 3 * i) (by unfold tP; omega)
  simp only [kV_v]
  refine ⟨by rw [fa.1]; exact m1, fun σ2 e2 => ?_⟩
  subst e2
  have ff : Fr (fun q => B + 170 + 3 * i ≤ q ∧ q < B + 170 + 3 * i + 3) σ (pI σ1 448 (B + 170 + 3 * i) (nI f)) := (f1.mo (fun q hq => by unfold tP at hq; omega)).tr (Fr.pI (by omega))
  exact hk _ (hC.case hi hN ff ⟨by rw [sh_pI, fa.1]; exact m1, by rw [gR_pI, fa.2.2.1]; exact m2, gI_s, hf, g1.ag (Ag.pI (by omega)) (Ag.pI (by omega))⟩) (hd.tr (ff.mo (fun q hq => by unfold dP; omega)))
theorem k_resubmit {x : Int32} {T : Nat} (hC : CR σ B S) (hI : Inv S T) (hR : Rm σ) (hkA : (x < 1 ∨ ¬ x ≤ nI S.2.2.1.length) → K (.inr 0) (bump σ 1 6)) (hkS : ∀ i, 1 ≤ i → i ≤ S.2.2.1.length → x = nI i → ((S.2.2.1.getD (i - 1) (0, [])).1 = 0 ∨ S.2.1.length = 10) → K (.inr 1) (bump σ 1 6)) (hkO : ∀ i, 1 ≤ i → i ≤ S.2.2.1.length → x = nI i → (S.2.2.1.getD (i - 1) (0, [])).1 ≠ 0 → S.2.1.length < 10 → ∀ σ', CR σ' B (spResub S (i - 1)).1 → Fr (dP B) σ σ' → K (.inl (some (.int (nI (spResub S (i - 1)).2)))) σ') : PW (d + 7) M_Desk_resubmit 0 [.ref B, .int x, uu, uu] [] σ K := by
  obtain ⟨i1, i2, i3, i4, i5⟩ := hI
  obtain ⟨a1, a2, a3, a4, a5, a6, a7, a8, a9, a10, a11, a12, a13, a14⟩ := hC.1
  refine e_Desk_resubmit_0 B x ⟨a1, ?_⟩
  rw [a8]
  refine c_needWithin hR (fun h1 h2 => ?_) (fun h => hkA h)
  obtain ⟨m, m1', m2', rfl⟩ := rngN (by omega) h1 h2
  have hm := hC.2.2.2.2.2 (m - 1) (by omega)
  rw [dec_n m1']
  refine ⟨a1, B + 3, a4, 6, a13, in_n (by omega) (by decide), B + 170 + 3 * (m - 1), by rw [ix_n (by omega)]; exact a14 _ (by omega), hm.1, c_Case_isClosed hm ?_⟩
  simp only [kI_i]
  by_cases h0 : (S.2.2.1.getD (m - 1) (0, [])).1 = 0
  · rw [decide_eq_true h0, if_neg (by decide)]
    exact ⟨hR.1, hR.2, hkS m m1' m2' rfl (Or.inl h0)⟩
  · rw [decide_eq_false h0, if_pos (by decide)]
    refine ⟨a1, ?_⟩
    rw [a7]
    by_cases h10 : S.2.1.length < 10
    · rw [if_pos (show nI S.2.1.length < (10 : Int32) from (nI_lt_iff (b := 10) (by omega) (by omega)).mpr h10)]
      have hkO := hkO m m1' m2' rfl h0 h10
      obtain ⟨m1, m2, m3, m4, m5⟩ := hm
      refine ⟨B + 30, a6, m1, _, m2, hC.2.2.1.1, c_Header_faultIn (lg := false) (by omega) hC.2.2.1 m5 (by omega) (fun σ1 hr f1 => ?_)⟩
      have hC1 := hC.head f1 hr.1
      have fd1 : Fr (dP B) σ σ1 := f1.mo (fun q hq => by unfold nP at hq; unfold dP; omega)
      have hfl := @flt_le (S.2.2.1.getD (m - 1) (0, [])).2 false
      have hxl := m5.2.2.2.2.1
      simp only [kI_i]
      unfold spResub at hkO
      generalize hxs : (S.2.2.1.getD (m - 1) (0, [])).2 = xs at *
      by_cases hf : flt xs false = 0
      · rw [hf, if_pos (by decide)]
        rw [if_neg (fun q => q hf)] at hkO
        obtain ⟨n1, n2, n3, n4, n5⟩ := hC1.2.2.2.2.2 (m - 1) (by omega)
        rw [hxs] at n5
        refine ⟨n1, _, n2, hC1.1.1, ?_⟩
        obtain ⟨r1, r2⟩ := hr.2.2.2 hf
        refine e_Desk_fileIfAllLeadSomewhere_0 B _ ⟨hC1.1.1, B + 4, hC1.1.2.2.2.2.1, B + 30, hC1.1.2.2.2.2.2.1, hC1.2.1.1, c_Routes_rowsBehind hC1.2.1 hC1.2.2.1 r2 (ind_lt hf) (fun acc hacc => ?_)⟩
        simp only [kI_i]
        refine c_Routes_leadNowhere hacc.1 ?_
        simp only [kI_i]
        have hLost : acc.testBit 12 = true ↔ Lost S (hInd xs) := hacc.2 12
        cases ht : acc.testBit 12 with
        | true =>
          rw [if_neg (by decide)]
          rw [if_pos (hLost.mp ht)] at hkO
          exact resub_end (f := 5) hC1 (by omega) i2 (by decide) fd1 hkO
        | false =>
          rw [if_pos (by decide)]
          rw [if_neg (fun q => by have := hLost.mpr q; rw [ht] at this; exact absurd this (by decide))] at hkO
          refine ⟨hC1.1.1, k_fileMessage (t := B + 170 + 3 * (m - 1) + 1) (cap := 60) (xs := xs) hC1 h10 (fun z hz => (i4 z hz).2.2.2.2.2.2.2.1) n5 (by omega) (by omega) (by omega) r1 r2 hr.2.1 (ind_lt hf) (fit_le hf hxl) hacc (fun σ2 h2 f2 => ?_)⟩
          simp only [kV_v, kI_i]
          have fd2 := fd1.tr (f2.mo (Q := dP B) (fun q hq => by unfold dP; omega))
          exact resub_end (f := 0) h2 (show m - 1 < S.2.2.1.length by omega) i2 (by decide) fd2 hkO
      · have hne : ¬ nI (flt xs false) = 0 := by
          rw [l_0, eq_n (by omega) (by decide)]; exact hf
        rw [if_neg hne]
        rw [if_pos hf] at hkO
        exact resub_end hC1 (by omega) i2 (by omega) fd1 hkO
    · rw [if_neg (show ¬ nI S.2.1.length < (10 : Int32) from fun q => h10 ((nI_lt_iff (b := 10) (by omega) (by omega)).mp q))]
      exact ⟨hR.1, hR.2, hkS m m1' m2' rfl (Or.inr (by omega))⟩
end Desk6
