/-! ===== the reference: resubmit ===== -/
section ModG
variable {d : Nat} {σ : PH} {K : PO → PH → Prop} {A : Nat} {S : SP}
theorem set_setC {C : List (Nat × List Nat)} {i : Nat} {p q : Nat × List Nat} : (C.set i p).set i q = C.set i q := List.set_set ..
/-- the last step of resubmit -/
theorem resub_125 {i w : Nat} {xs : List Nat} {S1 : SP} {r : Nat} {T : Nat} {σ0 : PH} (hw : w ≤ 5) (i1 : 1 ≤ i) (i2 : i ≤ S.2.2.1.length) (hN : S.2.2.1.length ≤ 6) (hS1 : S1 = uK S (S.2.2.1.set (i - 1) (r, []))) (hM : MR σ A S1) (h04 : gI σ 704 A = nI 0) (h10 : S.2.1.length < 10) (hF : w = 0 → FM σ A xs false ∧ flt xs false = 0 ∧ RH σ A (Rd S (hInd xs))) (hr0 : Fr (gP A) σ0 σ) (hk0 : w = 0 → Aft σ0 A (uK (addM S xs) (S.2.2.1.set (i - 1) (0, []))) 0 (K (.inl (some (.int (nI 0)))))) (hk : w ≠ 0 → Aft σ0 A (uK S (S.2.2.1.set (i - 1) (w, []))) 0 (K (.inl (some (.int (nI w)))))) : PW (d + 3) M_Mod_resubmit 125 [.ref A, .int (nI i), .int (nI w)] [] σ K := by
  have hz := hM.1
  have mk := hM.2.2.2.2
  have hl : S1.2.2.1.length = S.2.2.1.length := by rw [hS1]; show (S.2.2.1.set _ _).length = _; rw [List.length_set]
  have hget : S1.2.2.1.getD (i - 1) (0, []) = (r, []) := by
    rw [hS1]
    show (S.2.2.1.set (i - 1) (r, [])).getD (i - 1) (0, []) = _
    rw [List.getD_eq_getElem?_getD, List.getElem?_set_self (by omega)]; rfl
  obtain ⟨b1, b2, b3, b4⟩ := mk.2.2 i i1 (by omega)
  rw [hget] at b2
  have f1 : MF scF (kcP A i) A σ (uI σ (A + 21) i (nI w)) := MF.uI (by unfold kcP kP; omega)
  have M1 : MR (uI σ (A + 21) i (nI w)) A (uK S (S.2.2.1.set (i - 1) (w, []))) := by
    have := kcMR hM f1 (mk.upd (r := w) (xs := []) i1 (by omega) f1 (by unfold scF; omega) (fun k j k1 k2 q => by unfold kcP scP at q; rcases q with q | q; omega; exact q) (by simp only [bs_pI, cc_pI, cs_pI, sh_pI, gR_pI, eI_pI, eR_pI, eL_pI, bs_pR, cc_pR, cs_pR, sh_pR, gI_pR, eI_pR, eR_pR, eL_pR, bs_uI, cc_uI, cs_uI, sh_uI, gI_uI, gR_uI, eR_uI, eL_uI, bs_uR, cc_uR, cs_uR, sh_uR, gI_uR, gR_uR, eI_uR, eL_uR, bs_uL, cc_uL, cs_uL, sh_uL, gI_uL, gR_uL, eI_uL, eR_uL, gI_s, gI_d, gR_s, gR_d, eI_s, eI_d, eI_e, eR_s, eR_d, eR_e, eL_s, eL_d, bs_bump, cc_bump, cs_bump, sh_bump, gI_bump, gR_bump, eI_bump, eR_bump, eL_bump]) (by simp (disch := omega) only [bs_pI, cc_pI, cs_pI, sh_pI, gR_pI, eI_pI, eR_pI, eL_pI, bs_pR, cc_pR, cs_pR, sh_pR, gI_pR, eI_pR, eR_pR, eL_pR, bs_uI, cc_uI, cs_uI, sh_uI, gI_uI, gR_uI, eR_uI, eL_uI, bs_uR, cc_uR, cs_uR, sh_uR, gI_uR, gR_uR, eI_uR, eL_uR, bs_uL, cc_uL, cs_uL, sh_uL, gI_uL, gR_uL, eI_uL, eR_uL, gI_s, gI_d, gR_s, gR_d, eI_s, eI_d, eI_e, eR_s, eR_d, eR_e, eL_s, eL_d, bs_bump, cc_bump, cs_bump, sh_bump, gI_bump, gR_bump, eI_bump, eR_bump, eL_bump]; exact b2) (by simp) (fun k hk => absurd hk (Nat.not_lt_zero _)))
    rw [hS1] at this
    have e : uK (uK S (S.2.2.1.set (i - 1) (r, []))) ((uK S (S.2.2.1.set (i - 1) (r, []))).2.2.1.set (i - 1) (w, [])) = uK S (S.2.2.1.set (i - 1) (w, [])) := by
      show uK S ((S.2.2.1.set (i - 1) (r, [])).set (i - 1) (w, [])) = _
      rw [set_setC]
    rw [e] at this
    exact this
  have r1 := hr0.tr (kcFr f1)
  have g1 : gI (uI σ (A + 21) i (nI w)) 704 A = nI 0 := h04
  refine e_Mod_resubmit_125 A _ _ ⟨hz.1, A + 21, z_728 hz, 7, s_728 hz, in_n (by omega) (by decide), fun σ1 e1 => ?_⟩
  rw [ix_n (by omega)] at e1
  subst e1
  by_cases h0 : w = 0
  · subst h0
    rw [if_pos (by decide)]
    obtain ⟨F1, F2, F3⟩ := hF rfl
    have F1' : FM (uI σ (A + 21) i (nI 0)) A xs false := by
      obtain ⟨a1, a2, a3, a4, a5⟩ := F1
      exact ⟨a1.mf (F := noF) (P := fun a _ => a = A + 21) (MF.uI rfl) id (fun j => by omega), a2.mf (F := noF) (P := fun a _ => a = A + 21) (MF.uI rfl) id (fun j => by omega), a3, a4, a5⟩
    have F3' : RH (uI σ (A + 21) i (nI 0)) A (Rd (uK S (S.2.2.1.set (i - 1) (0, []))) (hInd xs)) := fun c hc => by simp (disch := omega) only [bs_pI, cc_pI, cs_pI, sh_pI, gR_pI, eI_pI, eR_pI, eL_pI, bs_pR, cc_pR, cs_pR, sh_pR, gI_pR, eI_pR, eR_pR, eL_pR, bs_uI, cc_uI, cs_uI, sh_uI, gI_uI, gR_uI, eR_uI, eL_uI, bs_uR, cc_uR, cs_uR, sh_uR, gI_uR, gR_uR, eI_uR, eL_uR, bs_uL, cc_uL, cs_uL, sh_uL, gI_uL, gR_uL, eI_uL, eR_uL, gI_s, gI_d, gR_s, gR_d, eI_s, eI_d, eI_e, eR_s, eR_d, eR_e, eL_s, eL_d, bs_bump, cc_bump, cs_bump, sh_bump, gI_bump, gR_bump, eI_bump, eR_bump, eL_bump]; exact F3 c hc
    refine ⟨M1.1.1, c_addMessage (d := d) M1 h10 F1' F2 F3' (fun σ2 M2 f2 => ?_)⟩
    simp only [kV_v]
    have em : addM (uK S (S.2.2.1.set (i - 1) (0, []))) xs = uK (addM S xs) (S.2.2.1.set (i - 1) (0, [])) := by
      unfold addM
      rw [newM_cg (S := S) (S' := uK S (S.2.2.1.set (i - 1) (0, []))) (fun _ => rfl) rfl]
      rfl
    rw [em] at M2
    exact hk0 rfl σ2 M2 (by rw [f2.gI (by unfold amF; omega)]; exact g1) (r1.tr (f2.fr (fun a j q => by unfold nmP at q; unfold gP; omega)))
  · rw [if_neg (show ¬ nI w = 0 from fun q => h0 ((nI_eq_iff (b := 0) (by omega) (by decide)).mp q))]
    exact hk h0 _ M1 g1 r1
theorem q_resubmit {x : Int32} {T : Nat} (hM : MR σ A S) (hI : Inv S T) (hB : Bd S) (hkA : (x < 1 ∨ ¬ x ≤ nI S.2.2.1.length) → Aft σ A S 1 (K (.inl (some (.int (nI 0)))))) (hkS : ∀ i, 1 ≤ i → i ≤ S.2.2.1.length → x = nI i → ((S.2.2.1.getD (i - 1) (0, [])).1 = 0 ∨ S.2.1.length = 10) → Aft σ A S 2 (K (.inl (some (.int (nI 0)))))) (hkO : ∀ i, 1 ≤ i → i ≤ S.2.2.1.length → x = nI i → (S.2.2.1.getD (i - 1) (0, [])).1 ≠ 0 → S.2.1.length < 10 → Aft σ A (spResub S (i - 1)).1 0 (K (.inl (some (.int (nI (spResub S (i - 1)).2)))))) : PW (d + 3) M_Mod_resubmit 0 [.ref A, .int x, uu] [] σ K := by
  have hz := hM.1
  obtain ⟨I1, I2, I3, I4, I5⟩ := hI
  have hu : Uq S.2.2.2 := I5
  have hb : Rb S.2.2.2 := hB.2.2
  refine e_Mod_resubmit_0 A _ ⟨hz.1, c_isCase hM I2 (fun i i1 i2 e => ?_) (fun q => ?_)⟩
  · simp only [kI_i]
    rw [if_neg (by decide)]
    replace hkS := hkS i i1 i2 e
    replace hkO := hkO i i1 i2 e
    subst e
    clear hkA
    have mk := hM.2.2.2.2
    obtain ⟨b1, b2, b3, b4⟩ := mk.2.2 i i1 i2
    obtain ⟨d1, d2, d3⟩ := hB.2.1 (i - 1) (by omega)
    have two : ((S.2.2.1.getD (i - 1) (0, [])).1 = 0 ∨ S.2.1.length = 10) → PW (d + 3) M_Mod_resubmit 31 [.ref A, .int (nI i), uu] [.ref A] σ K := by
      intro q
      refine e_Mod_resubmit_31 A _ _ (e_Mod_resubmit_36 A _ _ _ ⟨hz.1, c_refused (n := 2) hz (by omega) ?_⟩)
      simp only [kI_i]
      rw [if_neg (by decide)]
      exact (hkS q).at hM
    refine ⟨hz.1, A + 21, z_728 hz, 7, s_728 hz, in_n (by omega) (by decide), ?_⟩
    rw [ix_n (by omega), b1, hM.2.2.2.1.1]
    by_cases h0 : (S.2.2.1.getD (i - 1) (0, [])).1 = 0
    · rw [if_pos (show nI (S.2.2.1.getD (i - 1) (0, [])).1 = 0 by rw [h0]; decide)]
      exact two (Or.inl h0)
    · rw [if_neg (show ¬ nI (S.2.2.1.getD (i - 1) (0, [])).1 = 0 from fun q => h0 ((nI_eq_iff (b := 0) (by omega) (by decide)).mp q))]
      by_cases h10 : S.2.1.length = 10
      · rw [if_pos (show nI S.2.1.length = 10 by rw [h10]; decide)]
        exact two (Or.inr h10)
      · rw [if_neg (show ¬ nI S.2.1.length = 10 from fun q => h10 ((nI_eq_iff (b := 10) (by omega) (by decide)).mp q))]
        replace hkO := hkO h0 (by omega)
        clear two hkS
        refine e_Mod_resubmit_36 A _ _ _ ⟨hz.1, c_refused (n := 0) hz (by omega) ?_⟩
        simp only [kI_i]
        rw [if_pos (by decide)]
        unfold spResub at hkO
        obtain ⟨xs, hxs⟩ : ∃ xs, xs = (S.2.2.1.getD (i - 1) (0, [])).2 := ⟨_, rfl⟩
        obtain ⟨r, hr⟩ : ∃ r, r = (S.2.2.1.getD (i - 1) (0, [])).1 := ⟨_, rfl⟩
        rw [← hxs] at b2 b3 b4 d2 d3 hkO
        rw [← hr] at b1 h0 d1
        have hfl := @flt_le xs false
        have f0 : MF scF (kcP A i) A σ (pI (pI σ 704 A (nI 0)) 742 A (nI xs.length)) := (MF.pI (Or.inl rfl)).tr (MF.pI (by unfold scF; omega))
        have loop : ∀ (n k : Nat) (σ1 : PH), k + n = xs.length → MZ σ1 A → gI σ1 704 A = nI 0 → gI σ1 742 A = nI xs.length → (∀ j, j < k → eI σ1 (A + 35) j = nI (xs.getD j 0)) → MF scF (kcP A i) A σ σ1 → MF scF (scP A) A σ σ1 → PW (d + 3) M_Mod_resubmit 56 [.ref A, .int (nI i), .int (nI k)] [] σ1 K := by
          intro n
          induction n with
          | zero =>
            intro k σ1 hkn z1 g04 g42 e35 fk fs
            refine e_Mod_resubmit_56 A _ _ ⟨z1.1, ?_⟩
            rw [g42, if_pos ((nI_le_iff (by omega) (by omega)).mpr (by omega))]
            intro σ2 e2
            have e2' : σ2 = pI σ1 744 A (nI 0) := e2
            have f2 : MF scF (scP A) A σ1 σ2 := by rw [e2']; exact MF.pI (by unfold scF; omega)
            have z2 := f2.z z1
            refine ⟨z2.1, A + 22, z_729 z2, 7, s_729 z2, in_n (by omega) (by decide), fun σ3 e3 => ?_⟩
            rw [ix_n (by omega)] at e3
            have e3' : σ3 = uI σ2 (A + 22) i (nI 0) := e3
            have f3 : MF scF (kcP A i) A σ2 σ3 := by rw [e3']; exact MF.uI (by unfold kcP kP; omega)
            have f4 : MF scF (kcP A i) A σ σ3 := (fk.tr (f2.mo (fun f q => q) (fun a j q => Or.inl q))).tr f3
            have eo : ∀ a j, ¬ scP A a j → ¬ (a = A + 22 ∧ j = i) → eI σ3 a j = eI σ a j := fun a j q1 q2 => by rw [e3', eI_uI, if_neg q2, f2.eI q1, fs.eI q1]
            have M3 : MR σ3 A (uK S (S.2.2.1.set (i - 1) (r, []))) := kcMR hM f4 (mk.upd (r := r) (xs := []) i1 i2 f4 (by unfold scF; omega) (fun k j k1 k2 q => by unfold kcP scP at q; rcases q with q | q; omega; exact q) (by rw [eo _ _ (by unfold scP; omega) (by omega)]; exact b1) (by rw [e3']; simp only [bs_pI, cc_pI, cs_pI, sh_pI, gR_pI, eI_pI, eR_pI, eL_pI, bs_pR, cc_pR, cs_pR, sh_pR, gI_pR, eI_pR, eR_pR, eL_pR, bs_uI, cc_uI, cs_uI, sh_uI, gI_uI, gR_uI, eR_uI, eL_uI, bs_uR, cc_uR, cs_uR, sh_uR, gI_uR, gR_uR, eI_uR, eL_uR, bs_uL, cc_uL, cs_uL, sh_uL, gI_uL, gR_uL, eI_uL, eR_uL, gI_s, gI_d, gR_s, gR_d, eI_s, eI_d, eI_e, eR_s, eR_d, eR_e, eL_s, eL_d, bs_bump, cc_bump, cs_bump, sh_bump, gI_bump, gR_bump, eI_bump, eR_bump, eL_bump]; rfl) (by simp) (fun k hk => absurd hk (Nat.not_lt_zero _)))
            have g3 : gI σ3 704 A = nI 0 := by rw [e3', e2']; simp (disch := omega) only [bs_pI, cc_pI, cs_pI, sh_pI, gR_pI, eI_pI, eR_pI, eL_pI, bs_pR, cc_pR, cs_pR, sh_pR, gI_pR, eI_pR, eR_pR, eL_pR, bs_uI, cc_uI, cs_uI, sh_uI, gI_uI, gR_uI, eR_uI, eL_uI, bs_uR, cc_uR, cs_uR, sh_uR, gI_uR, gR_uR, eI_uR, eL_uR, bs_uL, cc_uL, cs_uL, sh_uL, gI_uL, gR_uL, eI_uL, eR_uL, gI_s, gI_d, gR_s, gR_d, eI_s, eI_d, eI_e, eR_s, eR_d, eR_e, eL_s, eL_d, bs_bump, cc_bump, cs_bump, sh_bump, gI_bump, gR_bump, eI_bump, eR_bump, eL_bump]; exact g04
            have x3 : TM σ3 A xs := ⟨by rw [e3', e2']; simp (disch := omega) only [bs_pI, cc_pI, cs_pI, sh_pI, gR_pI, eI_pI, eR_pI, eL_pI, bs_pR, cc_pR, cs_pR, sh_pR, gI_pR, eI_pR, eR_pR, eL_pR, bs_uI, cc_uI, cs_uI, sh_uI, gI_uI, gR_uI, eR_uI, eL_uI, bs_uR, cc_uR, cs_uR, sh_uR, gI_uR, gR_uR, eI_uR, eL_uR, bs_uL, cc_uL, cs_uL, sh_uL, gI_uL, gR_uL, eI_uL, eR_uL, gI_s, gI_d, gR_s, gR_d, eI_s, eI_d, eI_e, eR_s, eR_d, eR_e, eL_s, eL_d, bs_bump, cc_bump, cs_bump, sh_bump, gI_bump, gR_bump, eI_bump, eR_bump, eL_bump]; exact g42, d2, fun j hj => by rw [e3', e2']; simp (disch := omega) only [bs_pI, cc_pI, cs_pI, sh_pI, gR_pI, eI_pI, eR_pI, eL_pI, bs_pR, cc_pR, cs_pR, sh_pR, gI_pR, eI_pR, eR_pR, eL_pR, bs_uI, cc_uI, cs_uI, sh_uI, gI_uI, gR_uI, eR_uI, eL_uI, bs_uR, cc_uR, cs_uR, sh_uR, gI_uR, gR_uR, eI_uR, eL_uR, bs_uL, cc_uL, cs_uL, sh_uL, gI_uL, gR_uL, eI_uL, eR_uL, gI_s, gI_d, gR_s, gR_d, eI_s, eI_d, eI_e, eR_s, eR_d, eR_e, eL_s, eL_d, bs_bump, cc_bump, cs_bump, sh_bump, gI_bump, gR_bump, eI_bump, eR_bump, eL_bump]; exact e35 j (by omega), d3⟩
            have g44 : gI σ3 744 A = nI (Bool.toNat false) := by rw [e3', e2']; simp only [bs_pI, cc_pI, cs_pI, sh_pI, gR_pI, eI_pI, eR_pI, eL_pI, bs_pR, cc_pR, cs_pR, sh_pR, gI_pR, eI_pR, eR_pR, eL_pR, bs_uI, cc_uI, cs_uI, sh_uI, gI_uI, gR_uI, eR_uI, eL_uI, bs_uR, cc_uR, cs_uR, sh_uR, gI_uR, gR_uR, eI_uR, eL_uR, bs_uL, cc_uL, cs_uL, sh_uL, gI_uL, gR_uL, eI_uL, eR_uL, gI_s, gI_d, gR_s, gR_d, eI_s, eI_d, eI_e, eR_s, eR_d, eR_e, eL_s, eL_d, bs_bump, cc_bump, cs_bump, sh_bump, gI_bump, gR_bump, eI_bump, eR_bump, eL_bump]; rfl
            have r3 : Fr (gP A) σ σ3 := kcFr f4
            refine ⟨M3.1.1, c_faultOfText M3.1 x3 g44 (fun σ4 hF4 f4' => ?_)⟩
            have fs4 : MF scF (scP A) A σ3 σ4 := f4'.mo (fun f q => by unfold ftF at q; unfold scF; omega) (fun a j q => by unfold ptP at q; unfold scP; omega)
            have M4 := M3.sc fs4
            have r4 : Fr (gP A) σ σ4 := r3.tr (fs4.fr (fun a j q => by unfold scP at q; unfold gP; omega))
            have g4 : gI σ4 704 A = nI 0 := by rw [f4'.gI (by unfold ftF; omega)]; exact g3
            simp only [kI_i]
            by_cases hf0 : flt xs false = 0
            · rw [if_neg (fun q => q hf0)] at hkO
              rw [if_pos (show nI (flt xs false) = 0 by rw [hf0]; decide)]
              refine ⟨M4.1.1, c_look (S := uK S (S.2.2.1.set (i - 1) (r, []))) M4.1 M4.2.2.1 M4.cl hu hb hF4 hf0 (ind_lt hf0) (fun σ5 b hbb g5 q5 f5 => ?_)⟩
              have hbb : b = true ↔ Lost S (hInd xs) := hbb
              have fs5 : MF scF (scP A) A σ4 σ5 := f5.mo (fun f q => by unfold lkF at q; unfold scF; omega) (fun a j q => by unfold lkP at q; unfold scP; omega)
              have M5 := M4.sc fs5
              have r5 : Fr (gP A) σ σ5 := r4.tr (fs5.fr (fun a j q => by unfold scP at q; unfold gP; omega))
              have t5 : gI σ5 704 A = nI 0 := by rw [f5.gI (by unfold lkF; omega)]; exact g4
              have hF5 : FM σ5 A xs false := by
                obtain ⟨a1, a2, a3, a4, a5⟩ := hF4
                refine ⟨a1.mf f5 (by unfold lkF; omega) (fun j => by unfold lkP; omega), a2.mf f5 (by unfold lkF; omega) (fun j => by unfold lkP; omega), by rw [f5.gI (by unfold lkF; omega)]; exact a3, fun q => by rw [f5.gI (by unfold lkF; omega)]; exact a4 q, fun q => ?_⟩
                rw [f5.gI (by unfold lkF; omega), f5.gI (by unfold lkF; omega)]
                exact a5 q
              simp only [kV_v]
              refine ⟨M5.1.1, ?_⟩
              rw [g5]
              by_cases hL : Lost S (hInd xs)
              · rw [if_neg (show ¬ nI b.toNat = 0 by rw [hbb.mpr hL]; decide)]
                rw [if_pos hL] at hkO
                refine e_Mod_resubmit_124 A _ _ ?_
                exact resub_125 (T := T) (w := 5) (xs := xs) (σ0 := σ) (by omega) i1 i2 I2 rfl M5 t5 (by omega) (fun q => absurd q (by decide)) r5 (fun q => absurd q (by decide)) (fun _ => hkO)
              · have hbf : b = false := by cases b with | false => rfl | true => exact absurd (hbb.mp rfl) hL
                rw [if_pos (show nI b.toNat = 0 by rw [hbf]; decide)]
                rw [if_neg hL] at hkO
                refine e_Mod_resubmit_124 A _ _ ?_
                exact resub_125 (T := T) (w := 0) (xs := xs) (σ0 := σ) (by omega) i1 i2 I2 rfl M5 t5 (by omega) (fun _ => ⟨hF5, hf0, q5⟩) r5 (fun _ => hkO) (fun q => absurd rfl q)
            · rw [if_pos hf0] at hkO
              rw [if_neg (show ¬ nI (flt xs false) = 0 from fun q => hf0 ((nI_eq_iff (b := 0) (by omega) (by decide)).mp q))]
              exact resub_125 (T := T) (w := flt xs false) (xs := xs) (σ0 := σ) (by omega) i1 i2 I2 rfl M4 g4 (by omega) (fun q => absurd q hf0) r4 (fun q => absurd q hf0) (fun _ => hkO)
          | succ n ih =>
            intro k σ1 hkn z1 g04 g42 e35 fk fs
            have hlt := getD_lt d3 k
            refine e_Mod_resubmit_56 A _ _ ⟨z1.1, ?_⟩
            rw [g42, if_neg (fun q => by have := (nI_le_iff (by omega) (by omega)).mp q; omega)]
            have e23 : eI σ1 (A + 23) (64 * i + k) = nI (xs.getD k 0) := by rw [fs.eI (by unfold scP; omega)]; exact b4 k (by omega)
            simp (disch := omega) only [bs_pI, cc_pI, cs_pI, sh_pI, gR_pI, eI_pI, eR_pI, eL_pI, bs_pR, cc_pR, cs_pR, sh_pR, gI_pR, eI_pR, eR_pR, eL_pR, bs_uI, cc_uI, cs_uI, sh_uI, gI_uI, gR_uI, eR_uI, eL_uI, bs_uR, cc_uR, cs_uR, sh_uR, gI_uR, gR_uR, eI_uR, eL_uR, bs_uL, cc_uL, cs_uL, sh_uL, gI_uL, gR_uL, eI_uL, eR_uL, gI_s, gI_d, gR_s, gR_d, eI_s, eI_d, eI_e, eR_s, eR_d, eR_e, eL_s, eL_d, bs_bump, cc_bump, cs_bump, sh_bump, gI_bump, gR_bump, eI_bump, eR_bump, eL_bump, l_0, l_1, l_2, l_3, l_4, l_5, l_6, l_7, l_8, l_9, l_10, l_11, l_12, l_13, l_14, l_15, l_16, l_17, l_18, l_19, l_20, l_21, l_22, l_23, l_24, l_25, l_26, l_27, l_28, l_29, l_30, l_31, l_32, l_33, l_34, l_35, l_36, l_37, l_38, l_39, l_40, l_41, l_42, l_43, l_44, l_45, l_46, l_47, l_48, l_49, l_50, l_51, l_52, l_53, l_54, l_55, l_56, l_57, l_58, l_59, l_60, l_61, l_62, l_63, l_64, l_65, l_66, l_67, l_68, l_69, l_70, l_71, l_72, l_73, l_74, l_75, l_76, l_77, l_78, l_79, l_80, l_81, l_82, l_83, l_84, l_85, l_86, l_87, l_88, l_89, l_90, l_91, l_92, l_93, l_94, l_95, l_96, l_97, l_98, l_99, l_100, l_101, l_102, l_103, l_104, l_105, l_106, l_107, l_108, l_109, l_110, l_111, l_112, l_113, l_114, l_115, l_116, l_117, l_118, l_119, l_120, l_121, l_122, l_123, l_124, l_125, l_126, l_127, l_128, l_129, l_130, l_256, l_512, l_676, l_704, l_999, l_1000, l_4096, l_17576, l_32768, l_65535, l_456975, l_456976, l_m1, l_m2, in_iff, eq_m1, m1_eq, m1_lt, m1_le, le_m1, lt_m1, eq_m2, m2_m1, m1_m2, add_m1, m1_add, sub_n, mul_n, add_n, bo_n0, bo_n1, ch_n, lt_n, le_n, eq_n, ix_n, i2c_n, rem_n, div_n, kI_i, kI_x, kV_v, kV_x, kR_r, kR_n, kR_x, kHI_i, kHI_0, kHI_1, kHV_v, kHV_0, kHV_1, va_s, va_n, exists_eq_left', exists_eq_left, forall_eq, forall_eq', and_true, true_and, and_self, Option.some.injEq, Prod.mk.injEq, if_tt, if_ff, reduceIte, reduceCtorEq, not_true_eq_false, not_false_eq_true, Nat.reduceAdd, Nat.reduceMul, Nat.reduceSub, Nat.reduceLT, Nat.reduceLeDiff, Nat.reduceEqDiff, false_implies, true_implies, implies_true, z_743 z1, s_743 z1, z_730 z1, s_730 z1, e23]
            refine ⟨by omega, by omega, ?_⟩
            have f2 : MF scF (scP A) A σ1 (uI σ1 (A + 35) k (nI (xs.getD k 0))) := MF.uI (by unfold scP; omega)
            refine ih (k + 1) _ (by omega) (f2.z z1) (by simp only [bs_pI, cc_pI, cs_pI, sh_pI, gR_pI, eI_pI, eR_pI, eL_pI, bs_pR, cc_pR, cs_pR, sh_pR, gI_pR, eI_pR, eR_pR, eL_pR, bs_uI, cc_uI, cs_uI, sh_uI, gI_uI, gR_uI, eR_uI, eL_uI, bs_uR, cc_uR, cs_uR, sh_uR, gI_uR, gR_uR, eI_uR, eL_uR, bs_uL, cc_uL, cs_uL, sh_uL, gI_uL, gR_uL, eI_uL, eR_uL, gI_s, gI_d, gR_s, gR_d, eI_s, eI_d, eI_e, eR_s, eR_d, eR_e, eL_s, eL_d, bs_bump, cc_bump, cs_bump, sh_bump, gI_bump, gR_bump, eI_bump, eR_bump, eL_bump]; exact g04) (by simp only [bs_pI, cc_pI, cs_pI, sh_pI, gR_pI, eI_pI, eR_pI, eL_pI, bs_pR, cc_pR, cs_pR, sh_pR, gI_pR, eI_pR, eR_pR, eL_pR, bs_uI, cc_uI, cs_uI, sh_uI, gI_uI, gR_uI, eR_uI, eL_uI, bs_uR, cc_uR, cs_uR, sh_uR, gI_uR, gR_uR, eI_uR, eL_uR, bs_uL, cc_uL, cs_uL, sh_uL, gI_uL, gR_uL, eI_uL, eR_uL, gI_s, gI_d, gR_s, gR_d, eI_s, eI_d, eI_e, eR_s, eR_d, eR_e, eL_s, eL_d, bs_bump, cc_bump, cs_bump, sh_bump, gI_bump, gR_bump, eI_bump, eR_bump, eL_bump]; exact g42) (fun j hj => ?_) (fk.tr (f2.mo (fun f q => q) (fun a j q => Or.inl q))) (fs.tr f2)
            by_cases hjk : j = k
            · subst hjk; simp only [bs_pI, cc_pI, cs_pI, sh_pI, gR_pI, eI_pI, eR_pI, eL_pI, bs_pR, cc_pR, cs_pR, sh_pR, gI_pR, eI_pR, eR_pR, eL_pR, bs_uI, cc_uI, cs_uI, sh_uI, gI_uI, gR_uI, eR_uI, eL_uI, bs_uR, cc_uR, cs_uR, sh_uR, gI_uR, gR_uR, eI_uR, eL_uR, bs_uL, cc_uL, cs_uL, sh_uL, gI_uL, gR_uL, eI_uL, eR_uL, gI_s, gI_d, gR_s, gR_d, eI_s, eI_d, eI_e, eR_s, eR_d, eR_e, eL_s, eL_d, bs_bump, cc_bump, cs_bump, sh_bump, gI_bump, gR_bump, eI_bump, eR_bump, eL_bump]
            · simp (disch := omega) only [bs_pI, cc_pI, cs_pI, sh_pI, gR_pI, eI_pI, eR_pI, eL_pI, bs_pR, cc_pR, cs_pR, sh_pR, gI_pR, eI_pR, eR_pR, eL_pR, bs_uI, cc_uI, cs_uI, sh_uI, gI_uI, gR_uI, eR_uI, eL_uI, bs_uR, cc_uR, cs_uR, sh_uR, gI_uR, gR_uR, eI_uR, eL_uR, bs_uL, cc_uL, cs_uL, sh_uL, gI_uL, gR_uL, eI_uL, eR_uL, gI_s, gI_d, gR_s, gR_d, eI_s, eI_d, eI_e, eR_s, eR_d, eR_e, eL_s, eL_d, bs_bump, cc_bump, cs_bump, sh_bump, gI_bump, gR_bump, eI_bump, eR_bump, eL_bump]; exact e35 j (by omega)
        refine ⟨hz.1, A + 22, z_729 hz, 7, s_729 hz, in_n (by omega) (by decide), fun σ2 e2 => ?_⟩
        have e2' : σ2 = pI (pI σ 704 A (nI 0)) 742 A (nI xs.length) := by rw [e2, ix_n (by omega)]; show pI (pI σ 704 A (nI 0)) 742 A (eI σ (A + 22) i) = _; rw [b2]
        subst e2'
        exact loop xs.length 0 _ (by omega) (f0.z hz) (by simp (disch := omega) only [bs_pI, cc_pI, cs_pI, sh_pI, gR_pI, eI_pI, eR_pI, eL_pI, bs_pR, cc_pR, cs_pR, sh_pR, gI_pR, eI_pR, eR_pR, eL_pR, bs_uI, cc_uI, cs_uI, sh_uI, gI_uI, gR_uI, eR_uI, eL_uI, bs_uR, cc_uR, cs_uR, sh_uR, gI_uR, gR_uR, eI_uR, eL_uR, bs_uL, cc_uL, cs_uL, sh_uL, gI_uL, gR_uL, eI_uL, eR_uL, gI_s, gI_d, gR_s, gR_d, eI_s, eI_d, eI_e, eR_s, eR_d, eR_e, eL_s, eL_d, bs_bump, cc_bump, cs_bump, sh_bump, gI_bump, gR_bump, eI_bump, eR_bump, eL_bump]) (by simp only [bs_pI, cc_pI, cs_pI, sh_pI, gR_pI, eI_pI, eR_pI, eL_pI, bs_pR, cc_pR, cs_pR, sh_pR, gI_pR, eI_pR, eR_pR, eL_pR, bs_uI, cc_uI, cs_uI, sh_uI, gI_uI, gR_uI, eR_uI, eL_uI, bs_uR, cc_uR, cs_uR, sh_uR, gI_uR, gR_uR, eI_uR, eL_uR, bs_uL, cc_uL, cs_uL, sh_uL, gI_uL, gR_uL, eI_uL, eR_uL, gI_s, gI_d, gR_s, gR_d, eI_s, eI_d, eI_e, eR_s, eR_d, eR_e, eL_s, eL_d, bs_bump, cc_bump, cs_bump, sh_bump, gI_bump, gR_bump, eI_bump, eR_bump, eL_bump]) (fun j hj => absurd hj (Nat.not_lt_zero _)) f0 ((MF.pI (Or.inl rfl)).tr (MF.pI (by unfold scF; omega)))
  · simp only [kI_i]
    rw [if_pos (by decide)]
    refine e_Mod_resubmit_36 A _ _ _ ⟨hz.1, c_refused (n := 1) hz (by omega) ?_⟩
    simp only [kI_i]
    rw [if_neg (by decide)]
    exact (hkA q).at hM
end ModG
