/-! ===== the reference: addMessage, finish ===== -/
def amF (f : Nat) : Prop := f = 719
def nmP (A m a j : Nat) : Prop := ((a = A + 14 ∨ a = A + 15 ∨ a = A + 17) ∧ j = m) ∨ (a = A + 16 ∧ j / 4 = m) ∨ (a = A + 18 ∧ j / 64 = m) ∨ (a = A + 19 ∧ j / 8 = m)
theorem msg_snoc {M : List MS} {x : MS} {m : Nat} (h1 : 1 ≤ m) (h2 : m ≤ M.length + 1) : msg (M ++ [x]) m = if m = M.length + 1 then x else msg M m := by
  unfold msg
  by_cases h : m = M.length + 1
  · rw [if_pos h, h, show M.length + 1 - 1 = M.length by omega, getD_snoc0]
  · rw [if_neg h, List.getD_eq_getElem?_getD, List.getD_eq_getElem?_getD, List.getElem?_append_left (by omega)]
/-- what a sound text gives -/
theorem flt0i {xs : List Nat} (h0 : flt xs false = 0) : 1 ≤ (hI xs).length ∧ (hI xs).length ≤ 4 ∧ (hI xs).all (isI xs) = true := by
  unfold flt at h0
  split at h0
  · omega
  · rw [if_neg (by decide)] at h0
    split at h0
    · omega
    · split at h0
      · assumption
      · omega
theorem hI_get {xs : List Nat} {f : Nat} (h0 : flt xs false = 0) (hIe : hI xs = (hW xs).drop f) {i : Nat} (hi : i < (hInd xs).length) : (hInd xs).getD i 0 = indV xs ((hW xs).getD (f + i) (0, 0)) ∧ isI xs ((hW xs).getD (f + i) (0, 0)) = true := by
  have hi2 : i < (hI xs).length := by unfold hInd at hi; rw [List.length_map] at hi; exact hi
  have e : (hI xs)[i] = (hW xs).getD (f + i) (0, 0) := by
    rw [List.getD_eq_getElem?_getD, ← List.getElem?_drop, ← hIe, List.getElem?_eq_getElem hi2]; rfl
  refine ⟨?_, ?_⟩
  · unfold hInd
    rw [List.getD_eq_getElem?_getD, List.getElem?_map, List.getElem?_eq_getElem hi2, ← e]; rfl
  · rw [← e]
    exact List.all_eq_true.mp (flt0i h0).2.2 _ (List.getElem_mem hi2)
theorem getD_dropN {xs : List Nat} {p k : Nat} : (xs.drop p).getD k 0 = xs.getD (p + k) 0 := by
  rw [List.getD_eq_getElem?_getD, List.getD_eq_getElem?_getD, List.getElem?_drop]
section Mod9
variable {d : Nat} {σ : PH} {K : PO → PH → Prop} {A : Nat} {S : SP} {xs : List Nat}
theorem c_addMessage (hM : MR σ A S) (hl : S.2.1.length < 10) (hF : FM σ A xs false) (h0 : flt xs false = 0) (hq : RH σ A (Rd S (hInd xs))) (hk : ∀ σ', MR σ' A (addM S xs) → MF amF (nmP A (S.2.1.length + 1)) A σ σ' → K (.inl none) σ') : PW (d + 2) M_Mod_addMessage 0 [.ref A, uu, uu] [] σ K := by
  have hM0 := hM
  obtain ⟨hz, -, -, hm, -⟩ := hM
  obtain ⟨m1', m2', m3'⟩ := hm
  obtain ⟨t1, w1, h51, -, h6⟩ := hF
  obtain ⟨h49, f, h50, hfl, hIe⟩ := h6 h0
  obtain ⟨i1, i2, i3⟩ := flt0i h0
  have w2 := w1.2.1
  have t2 := t1.2.1
  have hlen : (hInd xs).length = (hW xs).length - f := by unfold hInd; rw [List.length_map, hIe, List.length_drop]
  have hlI : (hInd xs).length ≤ 4 := by unfold hInd; rw [List.length_map]; exact i2
  obtain ⟨bd, hbd⟩ : ∃ bd, bd = xs.drop (fle xs + 1) := ⟨_, rfl⟩
  have hbl : bd.length = xs.length - (fle xs + 1) := by rw [hbd, List.length_drop]
  -- entries
  have ents : ∀ (n k : Nat) (σ1 : PH), k + n = 8 → MF amF (nmP A (S.2.1.length + 1)) A σ σ1 → gI σ1 719 A = nI (S.2.1.length + 1) → eI σ1 (A + 14) (S.2.1.length + 1) = nI (hPrc xs) → eI σ1 (A + 15) (S.2.1.length + 1) = nI (hInd xs).length → (∀ k', k' < (hInd xs).length → eI σ1 (A + 16) (4 * (S.2.1.length + 1) + k') = nI ((hInd xs).getD k' 0)) → eI σ1 (A + 17) (S.2.1.length + 1) = nI bd.length → (∀ k', k' < bd.length → eI σ1 (A + 18) (64 * (S.2.1.length + 1) + k') = nI (bd.getD k' 0)) → (∀ c, c < k → eI σ1 (A + 19) (8 * (S.2.1.length + 1) + c) = nI (pN (Rd S (hInd xs) c))) → PW (d + 2) M_Mod_addMessage 135 [.ref A, .int (nI (S.2.1.length + 1)), .int (nI k)] [] σ1 K := by
    intro n
    induction n with
    | zero =>
      intro k σ1 hkn f1 g19 e14 e15 e16 e17 e18 e19
      have hk8 : k = 8 := by omega
      subst hk8
      refine e_Mod_addMessage_135 A _ _ ?_
      rw [if_pos (by decide)]
      refine hk σ1 (hM0.mess (f1.mo (fun f q => Or.inr q) (fun a j q => Or.inr (by unfold nmP at q; omega))) ⟨?_, ?_, fun m q1 q2 => ?_⟩) f1
      · rw [g19]; simp
      · simp; omega
      · simp at q2
        rw [msg_snoc q1 (by omega)]
        by_cases hmm : m = S.2.1.length + 1
        · subst hmm
          rw [if_pos rfl]
          unfold newM
          rw [← hbd]
          refine ⟨e14, e15, hlI, e16, e17, by show bd.length ≤ 60; omega, e18, fun c hc => ⟨?_, fun q => ?_⟩⟩
          · have := @pN_le (Rd S (hInd xs) c)
            rw [e19 c hc]
            show nI (pN (Rd S (hInd xs) c)) = nI (min (pN (Rd S (hInd xs) c)) 3)
            rw [Nat.min_eq_left (by omega)]
          · have := @pN_le (Rd S (hInd xs) c)
            have q : 3 ≤ pN (Rd S (hInd xs) c) := q
            omega
        · rw [if_neg hmm]
          obtain ⟨a1, a2, a3, a4, a5, a6, a7, a8⟩ := m3' m q1 (by omega)
          exact ⟨by rw [f1.eI (by unfold nmP; omega)]; exact a1, by rw [f1.eI (by unfold nmP; omega)]; exact a2, a3, fun k hk => by rw [f1.eI (by unfold nmP; omega)]; exact a4 k hk, by rw [f1.eI (by unfold nmP; omega)]; exact a5, a6, fun k hk => by rw [f1.eI (by unfold nmP; omega)]; exact a7 k hk, fun c hc => ⟨by rw [f1.eI (by unfold nmP; omega)]; exact (a8 c hc).1, fun q => by rw [f1.eI (by unfold nmP; omega)]; exact (a8 c hc).2 q⟩⟩
    | succ n ih =>
      intro k σ1 hkn f1 g19 e14 e15 e16 e17 e18 e19
      have z1 := f1.z hz
      have q1 : eI σ1 (A + 38) k = nI (pN (Rd S (hInd xs) k)) := by rw [f1.eI (by unfold nmP; omega)]; exact hq k (by omega)
      have go : ∀ v, v = pN (Rd S (hInd xs) k) → PW (d + 2) M_Mod_addMessage 165 [.ref A, .int (nI (S.2.1.length + 1)), .int (nI k)] [.int (nI v), .int (8 * nI (S.2.1.length + 1) + nI k), .ref (A + 19)] σ1 K := by
        intro v hv
        refine e_Mod_addMessage_165 A _ _ _ _ _ ?_
        simp (disch := omega) only [bs_pI, cc_pI, cs_pI, sh_pI, gR_pI, eI_pI, eR_pI, eL_pI, bs_pR, cc_pR, cs_pR, sh_pR, gI_pR, eI_pR, eR_pR, eL_pR, bs_uI, cc_uI, cs_uI, sh_uI, gI_uI, gR_uI, eR_uI, eL_uI, bs_uR, cc_uR, cs_uR, sh_uR, gI_uR, gR_uR, eI_uR, eL_uR, bs_uL, cc_uL, cs_uL, sh_uL, gI_uL, gR_uL, eI_uL, eR_uL, gI_s, gI_d, gR_s, gR_d, eI_s, eI_d, eI_e, eR_s, eR_d, eR_e, eL_s, eL_d, bs_bump, cc_bump, cs_bump, sh_bump, gI_bump, gR_bump, eI_bump, eR_bump, eL_bump, l_0, l_1, l_2, l_3, l_4, l_5, l_6, l_7, l_8, l_9, l_10, l_11, l_12, l_13, l_14, l_15, l_16, l_17, l_18, l_19, l_20, l_21, l_22, l_23, l_24, l_25, l_26, l_27, l_28, l_29, l_30, l_31, l_32, l_33, l_34, l_35, l_36, l_37, l_38, l_39, l_40, l_41, l_42, l_43, l_44, l_45, l_46, l_47, l_48, l_49, l_50, l_51, l_52, l_53, l_54, l_55, l_56, l_57, l_58, l_59, l_60, l_61, l_62, l_63, l_64, l_65, l_66, l_67, l_68, l_69, l_70, l_71, l_72, l_73, l_74, l_75, l_76, l_77, l_78, l_79, l_80, l_81, l_82, l_83, l_84, l_85, l_86, l_87, l_88, l_89, l_90, l_91, l_92, l_93, l_94, l_95, l_96, l_97, l_98, l_99, l_100, l_101, l_102, l_103, l_104, l_105, l_106, l_107, l_108, l_109, l_110, l_111, l_112, l_113, l_114, l_115, l_116, l_117, l_118, l_119, l_120, l_121, l_122, l_123, l_124, l_125, l_126, l_127, l_128, l_129, l_130, l_256, l_512, l_676, l_704, l_999, l_1000, l_4096, l_17576, l_32768, l_65535, l_456975, l_456976, l_m1, l_m2, in_iff, eq_m1, m1_eq, m1_lt, m1_le, le_m1, lt_m1, eq_m2, m2_m1, m1_m2, add_m1, m1_add, sub_n, mul_n, add_n, bo_n0, bo_n1, ch_n, lt_n, le_n, eq_n, ix_n, i2c_n, rem_n, div_n, kI_i, kI_x, kV_v, kV_x, kR_r, kR_n, kR_x, kHI_i, kHI_0, kHI_1, kHV_v, kHV_0, kHV_1, va_s, va_n, exists_eq_left', exists_eq_left, forall_eq, forall_eq', and_true, true_and, and_self, Option.some.injEq, Prod.mk.injEq, if_tt, if_ff, reduceIte, reduceCtorEq, not_true_eq_false, not_false_eq_true, Nat.reduceAdd, Nat.reduceMul, Nat.reduceSub, Nat.reduceLT, Nat.reduceLeDiff, Nat.reduceEqDiff, false_implies, true_implies, implies_true, s_725 z1]
        refine ⟨by omega, ?_⟩
        have f2 : MF amF (nmP A (S.2.1.length + 1)) A σ1 (uI σ1 (A + 19) (8 * (S.2.1.length + 1) + k) (nI v)) := MF.uI (by unfold nmP; omega)
        refine ih (k + 1) _ (by omega) (f1.tr f2) (by simp only [bs_pI, cc_pI, cs_pI, sh_pI, gR_pI, eI_pI, eR_pI, eL_pI, bs_pR, cc_pR, cs_pR, sh_pR, gI_pR, eI_pR, eR_pR, eL_pR, bs_uI, cc_uI, cs_uI, sh_uI, gI_uI, gR_uI, eR_uI, eL_uI, bs_uR, cc_uR, cs_uR, sh_uR, gI_uR, gR_uR, eI_uR, eL_uR, bs_uL, cc_uL, cs_uL, sh_uL, gI_uL, gR_uL, eI_uL, eR_uL, gI_s, gI_d, gR_s, gR_d, eI_s, eI_d, eI_e, eR_s, eR_d, eR_e, eL_s, eL_d, bs_bump, cc_bump, cs_bump, sh_bump, gI_bump, gR_bump, eI_bump, eR_bump, eL_bump]; exact g19) (by simp (disch := omega) only [bs_pI, cc_pI, cs_pI, sh_pI, gR_pI, eI_pI, eR_pI, eL_pI, bs_pR, cc_pR, cs_pR, sh_pR, gI_pR, eI_pR, eR_pR, eL_pR, bs_uI, cc_uI, cs_uI, sh_uI, gI_uI, gR_uI, eR_uI, eL_uI, bs_uR, cc_uR, cs_uR, sh_uR, gI_uR, gR_uR, eI_uR, eL_uR, bs_uL, cc_uL, cs_uL, sh_uL, gI_uL, gR_uL, eI_uL, eR_uL, gI_s, gI_d, gR_s, gR_d, eI_s, eI_d, eI_e, eR_s, eR_d, eR_e, eL_s, eL_d, bs_bump, cc_bump, cs_bump, sh_bump, gI_bump, gR_bump, eI_bump, eR_bump, eL_bump]; exact e14) (by simp (disch := omega) only [bs_pI, cc_pI, cs_pI, sh_pI, gR_pI, eI_pI, eR_pI, eL_pI, bs_pR, cc_pR, cs_pR, sh_pR, gI_pR, eI_pR, eR_pR, eL_pR, bs_uI, cc_uI, cs_uI, sh_uI, gI_uI, gR_uI, eR_uI, eL_uI, bs_uR, cc_uR, cs_uR, sh_uR, gI_uR, gR_uR, eI_uR, eL_uR, bs_uL, cc_uL, cs_uL, sh_uL, gI_uL, gR_uL, eI_uL, eR_uL, gI_s, gI_d, gR_s, gR_d, eI_s, eI_d, eI_e, eR_s, eR_d, eR_e, eL_s, eL_d, bs_bump, cc_bump, cs_bump, sh_bump, gI_bump, gR_bump, eI_bump, eR_bump, eL_bump]; exact e15) (fun k' hk' => by simp (disch := omega) only [bs_pI, cc_pI, cs_pI, sh_pI, gR_pI, eI_pI, eR_pI, eL_pI, bs_pR, cc_pR, cs_pR, sh_pR, gI_pR, eI_pR, eR_pR, eL_pR, bs_uI, cc_uI, cs_uI, sh_uI, gI_uI, gR_uI, eR_uI, eL_uI, bs_uR, cc_uR, cs_uR, sh_uR, gI_uR, gR_uR, eI_uR, eL_uR, bs_uL, cc_uL, cs_uL, sh_uL, gI_uL, gR_uL, eI_uL, eR_uL, gI_s, gI_d, gR_s, gR_d, eI_s, eI_d, eI_e, eR_s, eR_d, eR_e, eL_s, eL_d, bs_bump, cc_bump, cs_bump, sh_bump, gI_bump, gR_bump, eI_bump, eR_bump, eL_bump]; exact e16 k' hk') (by simp (disch := omega) only [bs_pI, cc_pI, cs_pI, sh_pI, gR_pI, eI_pI, eR_pI, eL_pI, bs_pR, cc_pR, cs_pR, sh_pR, gI_pR, eI_pR, eR_pR, eL_pR, bs_uI, cc_uI, cs_uI, sh_uI, gI_uI, gR_uI, eR_uI, eL_uI, bs_uR, cc_uR, cs_uR, sh_uR, gI_uR, gR_uR, eI_uR, eL_uR, bs_uL, cc_uL, cs_uL, sh_uL, gI_uL, gR_uL, eI_uL, eR_uL, gI_s, gI_d, gR_s, gR_d, eI_s, eI_d, eI_e, eR_s, eR_d, eR_e, eL_s, eL_d, bs_bump, cc_bump, cs_bump, sh_bump, gI_bump, gR_bump, eI_bump, eR_bump, eL_bump]; exact e17) (fun k' hk' => by simp (disch := omega) only [bs_pI, cc_pI, cs_pI, sh_pI, gR_pI, eI_pI, eR_pI, eL_pI, bs_pR, cc_pR, cs_pR, sh_pR, gI_pR, eI_pR, eR_pR, eL_pR, bs_uI, cc_uI, cs_uI, sh_uI, gI_uI, gR_uI, eR_uI, eL_uI, bs_uR, cc_uR, cs_uR, sh_uR, gI_uR, gR_uR, eI_uR, eL_uR, bs_uL, cc_uL, cs_uL, sh_uL, gI_uL, gR_uL, eI_uL, eR_uL, gI_s, gI_d, gR_s, gR_d, eI_s, eI_d, eI_e, eR_s, eR_d, eR_e, eL_s, eL_d, bs_bump, cc_bump, cs_bump, sh_bump, gI_bump, gR_bump, eI_bump, eR_bump, eL_bump]; exact e18 k' hk') (fun c hc => ?_)
        by_cases hck : c = k
        · subst hck; simp only [bs_pI, cc_pI, cs_pI, sh_pI, gR_pI, eI_pI, eR_pI, eL_pI, bs_pR, cc_pR, cs_pR, sh_pR, gI_pR, eI_pR, eR_pR, eL_pR, bs_uI, cc_uI, cs_uI, sh_uI, gI_uI, gR_uI, eR_uI, eL_uI, bs_uR, cc_uR, cs_uR, sh_uR, gI_uR, gR_uR, eI_uR, eL_uR, bs_uL, cc_uL, cs_uL, sh_uL, gI_uL, gR_uL, eI_uL, eR_uL, gI_s, gI_d, gR_s, gR_d, eI_s, eI_d, eI_e, eR_s, eR_d, eR_e, eL_s, eL_d, bs_bump, cc_bump, cs_bump, sh_bump, gI_bump, gR_bump, eI_bump, eR_bump, eL_bump]; rw [hv]
        · simp (disch := omega) only [bs_pI, cc_pI, cs_pI, sh_pI, gR_pI, eI_pI, eR_pI, eL_pI, bs_pR, cc_pR, cs_pR, sh_pR, gI_pR, eI_pR, eR_pR, eL_pR, bs_uI, cc_uI, cs_uI, sh_uI, gI_uI, gR_uI, eR_uI, eL_uI, bs_uR, cc_uR, cs_uR, sh_uR, gI_uR, gR_uR, eI_uR, eL_uR, bs_uL, cc_uL, cs_uL, sh_uL, gI_uL, gR_uL, eI_uL, eR_uL, gI_s, gI_d, gR_s, gR_d, eI_s, eI_d, eI_e, eR_s, eR_d, eR_e, eL_s, eL_d, bs_bump, cc_bump, cs_bump, sh_bump, gI_bump, gR_bump, eI_bump, eR_bump, eL_bump]; exact e19 c (by omega)
      refine e_Mod_addMessage_135 A _ _ ?_
      rw [if_neg (show ¬ (8 : Int32) ≤ nI k from fun q => by have := (nI_le_iff (a := 8) (by decide) (by omega)).mp q; omega)]
      refine ⟨z1.1, A + 19, z_725 z1, A + 38, z_752 z1, 8, s_752 z1, in_n (by omega) (by decide), ?_⟩
      rw [ix_n (by omega), q1]
      have hp := @pN_le (Rd S (hInd xs) k)
      rcases (show pN (Rd S (hInd xs) k) = 0 ∨ pN (Rd S (hInd xs) k) = 1 by omega) with q | q
      · rw [q, if_pos (show nI 0 = (0 : Int32) by decide)]; exact go 0 q.symm
      · rw [q, if_neg (by decide)]; exact go 1 q.symm
  -- body
  have body : ∀ (n k : Nat) (σ1 : PH), k + n = bd.length → MF amF (nmP A (S.2.1.length + 1)) A σ σ1 → gI σ1 719 A = nI (S.2.1.length + 1) → eI σ1 (A + 14) (S.2.1.length + 1) = nI (hPrc xs) → eI σ1 (A + 15) (S.2.1.length + 1) = nI (hInd xs).length → (∀ k', k' < (hInd xs).length → eI σ1 (A + 16) (4 * (S.2.1.length + 1) + k') = nI ((hInd xs).getD k' 0)) → eI σ1 (A + 17) (S.2.1.length + 1) = nI bd.length → (∀ k', k' < k → eI σ1 (A + 18) (64 * (S.2.1.length + 1) + k') = nI (bd.getD k' 0)) → PW (d + 2) M_Mod_addMessage 95 [.ref A, .int (nI (S.2.1.length + 1)), .int (nI k)] [] σ1 K := by
    intro n
    induction n with
    | zero =>
      intro k σ1 hkn f1 g19 e14 e15 e16 e17 e18
      have z1 := f1.z hz
      refine e_Mod_addMessage_95 A _ _ ⟨z1.1, A + 17, z_723 z1, 11, s_723 z1, in_n (by omega) (by decide), ?_⟩
      rw [ix_n (by omega), e17, if_pos ((nI_le_iff (by omega) (by omega)).mpr (by omega))]
      exact ents 8 0 σ1 (by omega) f1 g19 e14 e15 e16 e17 (fun k' hk' => e18 k' (by omega)) (fun c hc => absurd hc (Nat.not_lt_zero _))
    | succ n ih =>
      intro k σ1 hkn f1 g19 e14 e15 e16 e17 e18
      have z1 := f1.z hz
      have x1 : TM σ1 A xs := t1.mf f1 (by unfold amF; omega) (fun j => by unfold nmP; omega)
      have g51 : gI σ1 751 A = nI (fle xs + 1) := by rw [f1.gI (by unfold amF; omega), h51, if_pos (by omega)]
      have hlt := getD_lt x1.2.2.2 (fle xs + 1 + k)
      refine e_Mod_addMessage_95 A _ _ ⟨z1.1, A + 17, z_723 z1, 11, s_723 z1, in_n (by omega) (by decide), ?_⟩
      rw [ix_n (by omega), e17, if_neg (fun q => by have := (nI_le_iff (by omega) (by omega)).mp q; omega), g51]
      simp (disch := omega) only [bs_pI, cc_pI, cs_pI, sh_pI, gR_pI, eI_pI, eR_pI, eL_pI, bs_pR, cc_pR, cs_pR, sh_pR, gI_pR, eI_pR, eR_pR, eL_pR, bs_uI, cc_uI, cs_uI, sh_uI, gI_uI, gR_uI, eR_uI, eL_uI, bs_uR, cc_uR, cs_uR, sh_uR, gI_uR, gR_uR, eI_uR, eL_uR, bs_uL, cc_uL, cs_uL, sh_uL, gI_uL, gR_uL, eI_uL, eR_uL, gI_s, gI_d, gR_s, gR_d, eI_s, eI_d, eI_e, eR_s, eR_d, eR_e, eL_s, eL_d, bs_bump, cc_bump, cs_bump, sh_bump, gI_bump, gR_bump, eI_bump, eR_bump, eL_bump, l_0, l_1, l_2, l_3, l_4, l_5, l_6, l_7, l_8, l_9, l_10, l_11, l_12, l_13, l_14, l_15, l_16, l_17, l_18, l_19, l_20, l_21, l_22, l_23, l_24, l_25, l_26, l_27, l_28, l_29, l_30, l_31, l_32, l_33, l_34, l_35, l_36, l_37, l_38, l_39, l_40, l_41, l_42, l_43, l_44, l_45, l_46, l_47, l_48, l_49, l_50, l_51, l_52, l_53, l_54, l_55, l_56, l_57, l_58, l_59, l_60, l_61, l_62, l_63, l_64, l_65, l_66, l_67, l_68, l_69, l_70, l_71, l_72, l_73, l_74, l_75, l_76, l_77, l_78, l_79, l_80, l_81, l_82, l_83, l_84, l_85, l_86, l_87, l_88, l_89, l_90, l_91, l_92, l_93, l_94, l_95, l_96, l_97, l_98, l_99, l_100, l_101, l_102, l_103, l_104, l_105, l_106, l_107, l_108, l_109, l_110, l_111, l_112, l_113, l_114, l_115, l_116, l_117, l_118, l_119, l_120, l_121, l_122, l_123, l_124, l_125, l_126, l_127, l_128, l_129, l_130, l_256, l_512, l_676, l_704, l_999, l_1000, l_4096, l_17576, l_32768, l_65535, l_456975, l_456976, l_m1, l_m2, in_iff, eq_m1, m1_eq, m1_lt, m1_le, le_m1, lt_m1, eq_m2, m2_m1, m1_m2, add_m1, m1_add, sub_n, mul_n, add_n, bo_n0, bo_n1, ch_n, lt_n, le_n, eq_n, ix_n, i2c_n, rem_n, div_n, kI_i, kI_x, kV_v, kV_x, kR_r, kR_n, kR_x, kHI_i, kHI_0, kHI_1, kHV_v, kHV_0, kHV_1, va_s, va_n, exists_eq_left', exists_eq_left, forall_eq, forall_eq', and_true, true_and, and_self, Option.some.injEq, Prod.mk.injEq, if_tt, if_ff, reduceIte, reduceCtorEq, not_true_eq_false, not_false_eq_true, Nat.reduceAdd, Nat.reduceMul, Nat.reduceSub, Nat.reduceLT, Nat.reduceLeDiff, Nat.reduceEqDiff, false_implies, true_implies, implies_true, z_724 z1, s_724 z1, z_743 z1, s_743 z1]
      rw [x1.2.2.1 _ (by omega)]
      refine ⟨by omega, by omega, ch_nI (by omega), ?_⟩
      have f2 : MF amF (nmP A (S.2.1.length + 1)) A σ1 (uI σ1 (A + 18) (64 * (S.2.1.length + 1) + k) (nI (xs.getD (fle xs + 1 + k) 0))) := MF.uI (by unfold nmP; omega)
      refine ih (k + 1) _ (by omega) (f1.tr f2) (by simp only [bs_pI, cc_pI, cs_pI, sh_pI, gR_pI, eI_pI, eR_pI, eL_pI, bs_pR, cc_pR, cs_pR, sh_pR, gI_pR, eI_pR, eR_pR, eL_pR, bs_uI, cc_uI, cs_uI, sh_uI, gI_uI, gR_uI, eR_uI, eL_uI, bs_uR, cc_uR, cs_uR, sh_uR, gI_uR, gR_uR, eI_uR, eL_uR, bs_uL, cc_uL, cs_uL, sh_uL, gI_uL, gR_uL, eI_uL, eR_uL, gI_s, gI_d, gR_s, gR_d, eI_s, eI_d, eI_e, eR_s, eR_d, eR_e, eL_s, eL_d, bs_bump, cc_bump, cs_bump, sh_bump, gI_bump, gR_bump, eI_bump, eR_bump, eL_bump]; exact g19) (by simp (disch := omega) only [bs_pI, cc_pI, cs_pI, sh_pI, gR_pI, eI_pI, eR_pI, eL_pI, bs_pR, cc_pR, cs_pR, sh_pR, gI_pR, eI_pR, eR_pR, eL_pR, bs_uI, cc_uI, cs_uI, sh_uI, gI_uI, gR_uI, eR_uI, eL_uI, bs_uR, cc_uR, cs_uR, sh_uR, gI_uR, gR_uR, eI_uR, eL_uR, bs_uL, cc_uL, cs_uL, sh_uL, gI_uL, gR_uL, eI_uL, eR_uL, gI_s, gI_d, gR_s, gR_d, eI_s, eI_d, eI_e, eR_s, eR_d, eR_e, eL_s, eL_d, bs_bump, cc_bump, cs_bump, sh_bump, gI_bump, gR_bump, eI_bump, eR_bump, eL_bump]; exact e14) (by simp (disch := omega) only [bs_pI, cc_pI, cs_pI, sh_pI, gR_pI, eI_pI, eR_pI, eL_pI, bs_pR, cc_pR, cs_pR, sh_pR, gI_pR, eI_pR, eR_pR, eL_pR, bs_uI, cc_uI, cs_uI, sh_uI, gI_uI, gR_uI, eR_uI, eL_uI, bs_uR, cc_uR, cs_uR, sh_uR, gI_uR, gR_uR, eI_uR, eL_uR, bs_uL, cc_uL, cs_uL, sh_uL, gI_uL, gR_uL, eI_uL, eR_uL, gI_s, gI_d, gR_s, gR_d, eI_s, eI_d, eI_e, eR_s, eR_d, eR_e, eL_s, eL_d, bs_bump, cc_bump, cs_bump, sh_bump, gI_bump, gR_bump, eI_bump, eR_bump, eL_bump]; exact e15) (fun k' hk' => by simp (disch := omega) only [bs_pI, cc_pI, cs_pI, sh_pI, gR_pI, eI_pI, eR_pI, eL_pI, bs_pR, cc_pR, cs_pR, sh_pR, gI_pR, eI_pR, eR_pR, eL_pR, bs_uI, cc_uI, cs_uI, sh_uI, gI_uI, gR_uI, eR_uI, eL_uI, bs_uR, cc_uR, cs_uR, sh_uR, gI_uR, gR_uR, eI_uR, eL_uR, bs_uL, cc_uL, cs_uL, sh_uL, gI_uL, gR_uL, eI_uL, eR_uL, gI_s, gI_d, gR_s, gR_d, eI_s, eI_d, eI_e, eR_s, eR_d, eR_e, eL_s, eL_d, bs_bump, cc_bump, cs_bump, sh_bump, gI_bump, gR_bump, eI_bump, eR_bump, eL_bump]; exact e16 k' hk') (by simp (disch := omega) only [bs_pI, cc_pI, cs_pI, sh_pI, gR_pI, eI_pI, eR_pI, eL_pI, bs_pR, cc_pR, cs_pR, sh_pR, gI_pR, eI_pR, eR_pR, eL_pR, bs_uI, cc_uI, cs_uI, sh_uI, gI_uI, gR_uI, eR_uI, eL_uI, bs_uR, cc_uR, cs_uR, sh_uR, gI_uR, gR_uR, eI_uR, eL_uR, bs_uL, cc_uL, cs_uL, sh_uL, gI_uL, gR_uL, eI_uL, eR_uL, gI_s, gI_d, gR_s, gR_d, eI_s, eI_d, eI_e, eR_s, eR_d, eR_e, eL_s, eL_d, bs_bump, cc_bump, cs_bump, sh_bump, gI_bump, gR_bump, eI_bump, eR_bump, eL_bump]; exact e17) (fun k' hk' => ?_)
      by_cases hkk : k' = k
      · subst hkk; simp only [bs_pI, cc_pI, cs_pI, sh_pI, gR_pI, eI_pI, eR_pI, eL_pI, bs_pR, cc_pR, cs_pR, sh_pR, gI_pR, eI_pR, eR_pR, eL_pR, bs_uI, cc_uI, cs_uI, sh_uI, gI_uI, gR_uI, eR_uI, eL_uI, bs_uR, cc_uR, cs_uR, sh_uR, gI_uR, gR_uR, eI_uR, eL_uR, bs_uL, cc_uL, cs_uL, sh_uL, gI_uL, gR_uL, eI_uL, eR_uL, gI_s, gI_d, gR_s, gR_d, eI_s, eI_d, eI_e, eR_s, eR_d, eR_e, eL_s, eL_d, bs_bump, cc_bump, cs_bump, sh_bump, gI_bump, gR_bump, eI_bump, eR_bump, eL_bump]; rw [hbd, getD_dropN]
      · simp (disch := omega) only [bs_pI, cc_pI, cs_pI, sh_pI, gR_pI, eI_pI, eR_pI, eL_pI, bs_pR, cc_pR, cs_pR, sh_pR, gI_pR, eI_pR, eR_pR, eL_pR, bs_uI, cc_uI, cs_uI, sh_uI, gI_uI, gR_uI, eR_uI, eL_uI, bs_uR, cc_uR, cs_uR, sh_uR, gI_uR, gR_uR, eI_uR, eL_uR, bs_uL, cc_uL, cs_uL, sh_uL, gI_uL, gR_uL, eI_uL, eR_uL, gI_s, gI_d, gR_s, gR_d, eI_s, eI_d, eI_e, eR_s, eR_d, eR_e, eL_s, eL_d, bs_bump, cc_bump, cs_bump, sh_bump, gI_bump, gR_bump, eI_bump, eR_bump, eL_bump]; exact e18 k' (by omega)
  -- indicators
  have inds : ∀ (n k : Nat) (σ1 : PH), k + n = (hInd xs).length → MF amF (nmP A (S.2.1.length + 1)) A σ σ1 → gI σ1 719 A = nI (S.2.1.length + 1) → eI σ1 (A + 14) (S.2.1.length + 1) = nI (hPrc xs) → eI σ1 (A + 15) (S.2.1.length + 1) = nI (hInd xs).length → (∀ k', k' < k → eI σ1 (A + 16) (4 * (S.2.1.length + 1) + k') = nI ((hInd xs).getD k' 0)) → PW (d + 2) M_Mod_addMessage 42 [.ref A, .int (nI (S.2.1.length + 1)), .int (nI k)] [] σ1 K := by
    intro n
    induction n with
    | zero =>
      intro k σ1 hkn f1 g19 e14 e15 e16
      have z1 := f1.z hz
      have x1 : TM σ1 A xs := t1.mf f1 (by unfold amF; omega) (fun j => by unfold nmP; omega)
      have g51 : gI σ1 751 A = nI (if fle xs < xs.length then fle xs + 1 else xs.length) := by rw [f1.gI (by unfold amF; omega), h51]
      refine e_Mod_addMessage_42 A _ _ ⟨z1.1, A + 15, z_721 z1, 11, s_721 z1, in_n (by omega) (by decide), ?_⟩
      rw [ix_n (by omega), e15, if_pos ((nI_le_iff (by omega) (by omega)).mpr (by omega)), g51, x1.1]
      have hsub : nI xs.length - nI (if fle xs < xs.length then fle xs + 1 else xs.length) = nI bd.length := by
        rw [sub_n (by split <;> omega), hbl]
        congr 1
        split <;> omega
      rw [hsub]
      refine ⟨A + 17, z_723 z1, 11, s_723 z1, in_n (by omega) (by decide), fun σ2 e2 => ?_⟩
      have f2 : MF amF (nmP A (S.2.1.length + 1)) A σ1 (uI σ1 (A + 17) (S.2.1.length + 1) (nI bd.length)) := MF.uI (by unfold nmP; omega)
      subst e2
      exact body bd.length 0 _ (by omega) (f1.tr f2) (by simp only [bs_pI, cc_pI, cs_pI, sh_pI, gR_pI, eI_pI, eR_pI, eL_pI, bs_pR, cc_pR, cs_pR, sh_pR, gI_pR, eI_pR, eR_pR, eL_pR, bs_uI, cc_uI, cs_uI, sh_uI, gI_uI, gR_uI, eR_uI, eL_uI, bs_uR, cc_uR, cs_uR, sh_uR, gI_uR, gR_uR, eI_uR, eL_uR, bs_uL, cc_uL, cs_uL, sh_uL, gI_uL, gR_uL, eI_uL, eR_uL, gI_s, gI_d, gR_s, gR_d, eI_s, eI_d, eI_e, eR_s, eR_d, eR_e, eL_s, eL_d, bs_bump, cc_bump, cs_bump, sh_bump, gI_bump, gR_bump, eI_bump, eR_bump, eL_bump]; exact g19) (by simp (disch := omega) only [bs_pI, cc_pI, cs_pI, sh_pI, gR_pI, eI_pI, eR_pI, eL_pI, bs_pR, cc_pR, cs_pR, sh_pR, gI_pR, eI_pR, eR_pR, eL_pR, bs_uI, cc_uI, cs_uI, sh_uI, gI_uI, gR_uI, eR_uI, eL_uI, bs_uR, cc_uR, cs_uR, sh_uR, gI_uR, gR_uR, eI_uR, eL_uR, bs_uL, cc_uL, cs_uL, sh_uL, gI_uL, gR_uL, eI_uL, eR_uL, gI_s, gI_d, gR_s, gR_d, eI_s, eI_d, eI_e, eR_s, eR_d, eR_e, eL_s, eL_d, bs_bump, cc_bump, cs_bump, sh_bump, gI_bump, gR_bump, eI_bump, eR_bump, eL_bump]; exact e14) (by simp (disch := omega) only [bs_pI, cc_pI, cs_pI, sh_pI, gR_pI, eI_pI, eR_pI, eL_pI, bs_pR, cc_pR, cs_pR, sh_pR, gI_pR, eI_pR, eR_pR, eL_pR, bs_uI, cc_uI, cs_uI, sh_uI, gI_uI, gR_uI, eR_uI, eL_uI, bs_uR, cc_uR, cs_uR, sh_uR, gI_uR, gR_uR, eI_uR, eL_uR, bs_uL, cc_uL, cs_uL, sh_uL, gI_uL, gR_uL, eI_uL, eR_uL, gI_s, gI_d, gR_s, gR_d, eI_s, eI_d, eI_e, eR_s, eR_d, eR_e, eL_s, eL_d, bs_bump, cc_bump, cs_bump, sh_bump, gI_bump, gR_bump, eI_bump, eR_bump, eL_bump]; exact e15) (fun k' hk' => by simp (disch := omega) only [bs_pI, cc_pI, cs_pI, sh_pI, gR_pI, eI_pI, eR_pI, eL_pI, bs_pR, cc_pR, cs_pR, sh_pR, gI_pR, eI_pR, eR_pR, eL_pR, bs_uI, cc_uI, cs_uI, sh_uI, gI_uI, gR_uI, eR_uI, eL_uI, bs_uR, cc_uR, cs_uR, sh_uR, gI_uR, gR_uR, eI_uR, eL_uR, bs_uL, cc_uL, cs_uL, sh_uL, gI_uL, gR_uL, eI_uL, eR_uL, gI_s, gI_d, gR_s, gR_d, eI_s, eI_d, eI_e, eR_s, eR_d, eR_e, eL_s, eL_d, bs_bump, cc_bump, cs_bump, sh_bump, gI_bump, gR_bump, eI_bump, eR_bump, eL_bump]; exact e16 k' (by omega)) (by simp only [bs_pI, cc_pI, cs_pI, sh_pI, gR_pI, eI_pI, eR_pI, eL_pI, bs_pR, cc_pR, cs_pR, sh_pR, gI_pR, eI_pR, eR_pR, eL_pR, bs_uI, cc_uI, cs_uI, sh_uI, gI_uI, gR_uI, eR_uI, eL_uI, bs_uR, cc_uR, cs_uR, sh_uR, gI_uR, gR_uR, eI_uR, eL_uR, bs_uL, cc_uL, cs_uL, sh_uL, gI_uL, gR_uL, eI_uL, eR_uL, gI_s, gI_d, gR_s, gR_d, eI_s, eI_d, eI_e, eR_s, eR_d, eR_e, eL_s, eL_d, bs_bump, cc_bump, cs_bump, sh_bump, gI_bump, gR_bump, eI_bump, eR_bump, eL_bump]) (fun k' hk' => absurd hk' (Nat.not_lt_zero _))
    | succ n ih =>
      intro k σ1 hkn f1 g19 e14 e15 e16
      have z1 := f1.z hz
      have x1 : TM σ1 A xs := t1.mf f1 (by unfold amF; omega) (fun j => by unfold nmP; omega)
      have v1 : WM σ1 A (hW xs) := w1.mf f1 (by unfold amF; omega) (fun j => by unfold nmP; omega)
      have g50 : gI σ1 750 A = nI f := by rw [f1.gI (by unfold amF; omega), h50]
      obtain ⟨e1, e2⟩ := hI_get h0 hIe (i := k) (by omega)
      refine e_Mod_addMessage_42 A _ _ ⟨z1.1, A + 15, z_721 z1, 11, s_721 z1, in_n (by omega) (by decide), ?_⟩
      rw [ix_n (by omega), e15, if_neg (fun q => by have := (nI_le_iff (by omega) (by omega)).mp q; omega), g50, add_n]
      refine ⟨A + 16, z_722 z1, c_modIndicatorOf z1 x1 v1 hW_Win (by omega) e2 ?_⟩
      rw [← e1]
      simp (disch := omega) only [bs_pI, cc_pI, cs_pI, sh_pI, gR_pI, eI_pI, eR_pI, eL_pI, bs_pR, cc_pR, cs_pR, sh_pR, gI_pR, eI_pR, eR_pR, eL_pR, bs_uI, cc_uI, cs_uI, sh_uI, gI_uI, gR_uI, eR_uI, eL_uI, bs_uR, cc_uR, cs_uR, sh_uR, gI_uR, gR_uR, eI_uR, eL_uR, bs_uL, cc_uL, cs_uL, sh_uL, gI_uL, gR_uL, eI_uL, eR_uL, gI_s, gI_d, gR_s, gR_d, eI_s, eI_d, eI_e, eR_s, eR_d, eR_e, eL_s, eL_d, bs_bump, cc_bump, cs_bump, sh_bump, gI_bump, gR_bump, eI_bump, eR_bump, eL_bump, l_0, l_1, l_2, l_3, l_4, l_5, l_6, l_7, l_8, l_9, l_10, l_11, l_12, l_13, l_14, l_15, l_16, l_17, l_18, l_19, l_20, l_21, l_22, l_23, l_24, l_25, l_26, l_27, l_28, l_29, l_30, l_31, l_32, l_33, l_34, l_35, l_36, l_37, l_38, l_39, l_40, l_41, l_42, l_43, l_44, l_45, l_46, l_47, l_48, l_49, l_50, l_51, l_52, l_53, l_54, l_55, l_56, l_57, l_58, l_59, l_60, l_61, l_62, l_63, l_64, l_65, l_66, l_67, l_68, l_69, l_70, l_71, l_72, l_73, l_74, l_75, l_76, l_77, l_78, l_79, l_80, l_81, l_82, l_83, l_84, l_85, l_86, l_87, l_88, l_89, l_90, l_91, l_92, l_93, l_94, l_95, l_96, l_97, l_98, l_99, l_100, l_101, l_102, l_103, l_104, l_105, l_106, l_107, l_108, l_109, l_110, l_111, l_112, l_113, l_114, l_115, l_116, l_117, l_118, l_119, l_120, l_121, l_122, l_123, l_124, l_125, l_126, l_127, l_128, l_129, l_130, l_256, l_512, l_676, l_704, l_999, l_1000, l_4096, l_17576, l_32768, l_65535, l_456975, l_456976, l_m1, l_m2, in_iff, eq_m1, m1_eq, m1_lt, m1_le, le_m1, lt_m1, eq_m2, m2_m1, m1_m2, add_m1, m1_add, sub_n, mul_n, add_n, bo_n0, bo_n1, ch_n, lt_n, le_n, eq_n, ix_n, i2c_n, rem_n, div_n, kI_i, kI_x, kV_v, kV_x, kR_r, kR_n, kR_x, kHI_i, kHI_0, kHI_1, kHV_v, kHV_0, kHV_1, va_s, va_n, exists_eq_left', exists_eq_left, forall_eq, forall_eq', and_true, true_and, and_self, Option.some.injEq, Prod.mk.injEq, if_tt, if_ff, reduceIte, reduceCtorEq, not_true_eq_false, not_false_eq_true, Nat.reduceAdd, Nat.reduceMul, Nat.reduceSub, Nat.reduceLT, Nat.reduceLeDiff, Nat.reduceEqDiff, false_implies, true_implies, implies_true, s_722 z1]
      refine ⟨by omega, ?_⟩
      have f2 : MF amF (nmP A (S.2.1.length + 1)) A σ1 (uI σ1 (A + 16) (4 * (S.2.1.length + 1) + k) (nI ((hInd xs).getD k 0))) := MF.uI (by unfold nmP; omega)
      refine ih (k + 1) _ (by omega) (f1.tr f2) (by simp only [bs_pI, cc_pI, cs_pI, sh_pI, gR_pI, eI_pI, eR_pI, eL_pI, bs_pR, cc_pR, cs_pR, sh_pR, gI_pR, eI_pR, eR_pR, eL_pR, bs_uI, cc_uI, cs_uI, sh_uI, gI_uI, gR_uI, eR_uI, eL_uI, bs_uR, cc_uR, cs_uR, sh_uR, gI_uR, gR_uR, eI_uR, eL_uR, bs_uL, cc_uL, cs_uL, sh_uL, gI_uL, gR_uL, eI_uL, eR_uL, gI_s, gI_d, gR_s, gR_d, eI_s, eI_d, eI_e, eR_s, eR_d, eR_e, eL_s, eL_d, bs_bump, cc_bump, cs_bump, sh_bump, gI_bump, gR_bump, eI_bump, eR_bump, eL_bump]; exact g19) (by simp (disch := omega) only [bs_pI, cc_pI, cs_pI, sh_pI, gR_pI, eI_pI, eR_pI, eL_pI, bs_pR, cc_pR, cs_pR, sh_pR, gI_pR, eI_pR, eR_pR, eL_pR, bs_uI, cc_uI, cs_uI, sh_uI, gI_uI, gR_uI, eR_uI, eL_uI, bs_uR, cc_uR, cs_uR, sh_uR, gI_uR, gR_uR, eI_uR, eL_uR, bs_uL, cc_uL, cs_uL, sh_uL, gI_uL, gR_uL, eI_uL, eR_uL, gI_s, gI_d, gR_s, gR_d, eI_s, eI_d, eI_e, eR_s, eR_d, eR_e, eL_s, eL_d, bs_bump, cc_bump, cs_bump, sh_bump, gI_bump, gR_bump, eI_bump, eR_bump, eL_bump]; exact e14) (by simp (disch := omega) only [bs_pI, cc_pI, cs_pI, sh_pI, gR_pI, eI_pI, eR_pI, eL_pI, bs_pR, cc_pR, cs_pR, sh_pR, gI_pR, eI_pR, eR_pR, eL_pR, bs_uI, cc_uI, cs_uI, sh_uI, gI_uI, gR_uI, eR_uI, eL_uI, bs_uR, cc_uR, cs_uR, sh_uR, gI_uR, gR_uR, eI_uR, eL_uR, bs_uL, cc_uL, cs_uL, sh_uL, gI_uL, gR_uL, eI_uL, eR_uL, gI_s, gI_d, gR_s, gR_d, eI_s, eI_d, eI_e, eR_s, eR_d, eR_e, eL_s, eL_d, bs_bump, cc_bump, cs_bump, sh_bump, gI_bump, gR_bump, eI_bump, eR_bump, eL_bump]; exact e15) (fun k' hk' => ?_)
      by_cases hkk : k' = k
      · subst hkk; simp only [bs_pI, cc_pI, cs_pI, sh_pI, gR_pI, eI_pI, eR_pI, eL_pI, bs_pR, cc_pR, cs_pR, sh_pR, gI_pR, eI_pR, eR_pR, eL_pR, bs_uI, cc_uI, cs_uI, sh_uI, gI_uI, gR_uI, eR_uI, eL_uI, bs_uR, cc_uR, cs_uR, sh_uR, gI_uR, gR_uR, eI_uR, eL_uR, bs_uL, cc_uL, cs_uL, sh_uL, gI_uL, gR_uL, eI_uL, eR_uL, gI_s, gI_d, gR_s, gR_d, eI_s, eI_d, eI_e, eR_s, eR_d, eR_e, eL_s, eL_d, bs_bump, cc_bump, cs_bump, sh_bump, gI_bump, gR_bump, eI_bump, eR_bump, eL_bump]
      · simp (disch := omega) only [bs_pI, cc_pI, cs_pI, sh_pI, gR_pI, eI_pI, eR_pI, eL_pI, bs_pR, cc_pR, cs_pR, sh_pR, gI_pR, eI_pR, eR_pR, eL_pR, bs_uI, cc_uI, cs_uI, sh_uI, gI_uI, gR_uI, eR_uI, eL_uI, bs_uR, cc_uR, cs_uR, sh_uR, gI_uR, gR_uR, eI_uR, eL_uR, bs_uL, cc_uL, cs_uL, sh_uL, gI_uL, gR_uL, eI_uL, eR_uL, gI_s, gI_d, gR_s, gR_d, eI_s, eI_d, eI_e, eR_s, eR_d, eR_e, eL_s, eL_d, bs_bump, cc_bump, cs_bump, sh_bump, gI_bump, gR_bump, eI_bump, eR_bump, eL_bump]; exact e16 k' (by omega)
  refine e_Mod_addMessage_0 A ?_
  have f1 : MF amF (nmP A (S.2.1.length + 1)) A σ (uI (uI (pI σ 719 A (nI (S.2.1.length + 1))) (A + 14) (S.2.1.length + 1) (nI (hPrc xs))) (A + 15) (S.2.1.length + 1) (nI (hInd xs).length)) := ((MF.pI (show amF 719 from rfl)).tr (MF.uI (by unfold nmP; omega))).tr (MF.uI (by unfold nmP; omega))
  have := inds (hInd xs).length 0 _ (by omega) f1 (by simp only [bs_pI, cc_pI, cs_pI, sh_pI, gR_pI, eI_pI, eR_pI, eL_pI, bs_pR, cc_pR, cs_pR, sh_pR, gI_pR, eI_pR, eR_pR, eL_pR, bs_uI, cc_uI, cs_uI, sh_uI, gI_uI, gR_uI, eR_uI, eL_uI, bs_uR, cc_uR, cs_uR, sh_uR, gI_uR, gR_uR, eI_uR, eL_uR, bs_uL, cc_uL, cs_uL, sh_uL, gI_uL, gR_uL, eI_uL, eR_uL, gI_s, gI_d, gR_s, gR_d, eI_s, eI_d, eI_e, eR_s, eR_d, eR_e, eL_s, eL_d, bs_bump, cc_bump, cs_bump, sh_bump, gI_bump, gR_bump, eI_bump, eR_bump, eL_bump]) (by simp (disch := omega) only [bs_pI, cc_pI, cs_pI, sh_pI, gR_pI, eI_pI, eR_pI, eL_pI, bs_pR, cc_pR, cs_pR, sh_pR, gI_pR, eI_pR, eR_pR, eL_pR, bs_uI, cc_uI, cs_uI, sh_uI, gI_uI, gR_uI, eR_uI, eL_uI, bs_uR, cc_uR, cs_uR, sh_uR, gI_uR, gR_uR, eI_uR, eL_uR, bs_uL, cc_uL, cs_uL, sh_uL, gI_uL, gR_uL, eI_uL, eR_uL, gI_s, gI_d, gR_s, gR_d, eI_s, eI_d, eI_e, eR_s, eR_d, eR_e, eL_s, eL_d, bs_bump, cc_bump, cs_bump, sh_bump, gI_bump, gR_bump, eI_bump, eR_bump, eL_bump]) (by simp only [bs_pI, cc_pI, cs_pI, sh_pI, gR_pI, eI_pI, eR_pI, eL_pI, bs_pR, cc_pR, cs_pR, sh_pR, gI_pR, eI_pR, eR_pR, eL_pR, bs_uI, cc_uI, cs_uI, sh_uI, gI_uI, gR_uI, eR_uI, eL_uI, bs_uR, cc_uR, cs_uR, sh_uR, gI_uR, gR_uR, eI_uR, eL_uR, bs_uL, cc_uL, cs_uL, sh_uL, gI_uL, gR_uL, eI_uL, eR_uL, gI_s, gI_d, gR_s, gR_d, eI_s, eI_d, eI_e, eR_s, eR_d, eR_e, eL_s, eL_d, bs_bump, cc_bump, cs_bump, sh_bump, gI_bump, gR_bump, eI_bump, eR_bump, eL_bump]) (fun k' hk' => absurd hk' (Nat.not_lt_zero _))
  simp (disch := omega) only [bs_pI, cc_pI, cs_pI, sh_pI, gR_pI, eI_pI, eR_pI, eL_pI, bs_pR, cc_pR, cs_pR, sh_pR, gI_pR, eI_pR, eR_pR, eL_pR, bs_uI, cc_uI, cs_uI, sh_uI, gI_uI, gR_uI, eR_uI, eL_uI, bs_uR, cc_uR, cs_uR, sh_uR, gI_uR, gR_uR, eI_uR, eL_uR, bs_uL, cc_uL, cs_uL, sh_uL, gI_uL, gR_uL, eI_uL, eR_uL, gI_s, gI_d, gR_s, gR_d, eI_s, eI_d, eI_e, eR_s, eR_d, eR_e, eL_s, eL_d, bs_bump, cc_bump, cs_bump, sh_bump, gI_bump, gR_bump, eI_bump, eR_bump, eL_bump, l_0, l_1, l_2, l_3, l_4, l_5, l_6, l_7, l_8, l_9, l_10, l_11, l_12, l_13, l_14, l_15, l_16, l_17, l_18, l_19, l_20, l_21, l_22, l_23, l_24, l_25, l_26, l_27, l_28, l_29, l_30, l_31, l_32, l_33, l_34, l_35, l_36, l_37, l_38, l_39, l_40, l_41, l_42, l_43, l_44, l_45, l_46, l_47, l_48, l_49, l_50, l_51, l_52, l_53, l_54, l_55, l_56, l_57, l_58, l_59, l_60, l_61, l_62, l_63, l_64, l_65, l_66, l_67, l_68, l_69, l_70, l_71, l_72, l_73, l_74, l_75, l_76, l_77, l_78, l_79, l_80, l_81, l_82, l_83, l_84, l_85, l_86, l_87, l_88, l_89, l_90, l_91, l_92, l_93, l_94, l_95, l_96, l_97, l_98, l_99, l_100, l_101, l_102, l_103, l_104, l_105, l_106, l_107, l_108, l_109, l_110, l_111, l_112, l_113, l_114, l_115, l_116, l_117, l_118, l_119, l_120, l_121, l_122, l_123, l_124, l_125, l_126, l_127, l_128, l_129, l_130, l_256, l_512, l_676, l_704, l_999, l_1000, l_4096, l_17576, l_32768, l_65535, l_456975, l_456976, l_m1, l_m2, in_iff, eq_m1, m1_eq, m1_lt, m1_le, le_m1, lt_m1, eq_m2, m2_m1, m1_m2, add_m1, m1_add, sub_n, mul_n, add_n, bo_n0, bo_n1, ch_n, lt_n, le_n, eq_n, ix_n, i2c_n, rem_n, div_n, kI_i, kI_x, kV_v, kV_x, kR_r, kR_n, kR_x, kHI_i, kHI_0, kHI_1, kHV_v, kHV_0, kHV_1, va_s, va_n, exists_eq_left', exists_eq_left, forall_eq, forall_eq', and_true, true_and, and_self, Option.some.injEq, Prod.mk.injEq, if_tt, if_ff, reduceIte, reduceCtorEq, not_true_eq_false, not_false_eq_true, Nat.reduceAdd, Nat.reduceMul, Nat.reduceSub, Nat.reduceLT, Nat.reduceLeDiff, Nat.reduceEqDiff, false_implies, true_implies, implies_true, hz.1, z_720 hz, s_720 hz, z_721 hz, s_721 hz, m1', h49, h50, w1.1]
  refine ⟨by omega, by omega, ?_⟩
  rw [← hlen]
  exact this
theorem MF.ch {σ' : PH} {c : Nat} (h : MF noF (nuP A c) A σ σ') : MF scF (chF A c) A σ σ' := h.mo (fun f q => q.elim) (fun a j q => Or.inr (by unfold nuP at q; rcases q with ⟨q1, q2⟩ | ⟨q1, q2⟩ | ⟨q1, q2⟩; exact ⟨5, q1, by unfold own; omega⟩; exact ⟨6, q1, by unfold own; omega⟩; exact ⟨7, q1, by unfold own; omega⟩))
theorem flt_lg {lg : Bool} (h : flt xs lg = 0) : lg = false := by
  cases lg with
  | false => rfl
  | true =>
    unfold flt at h
    split at h
    · omega
    · rw [if_pos rfl] at h; omega
theorem c_finish {c : Nat} {lg : Bool} {T : Nat} (hM : MR σ A S) (hI : Inv S T) (hB : Bd S) (hc : c < 8) (hx : TM σ A xs) (h44 : gI σ 744 A = nI lg.toNat) (hk : ∀ σ', MR σ' A (hand S c xs lg).1 → gI σ' 704 A = gI σ 704 A → Fr (gP A) σ σ' → K (.inl (some (.int (nI (hand S c xs lg).2)))) σ') : PW (d + 4) M_Mod_finish 0 [.ref A, .int (nI c), uu] [] σ K := by
  obtain ⟨I1, I2, I3, I4, I5⟩ := hI
  obtain ⟨j1, j2, j3, j4, j5, j6, -⟩ := I4 c hc
  have hu : Uq S.2.2.2 := I5
  have hb : Rb S.2.2.2 := hB.2.2
  have hfl := @flt_le xs lg
  have hmx : ∀ x ∈ sMi (S.1 c), x ≤ 999 := fun x q => (j6 x q).2
  refine e_Mod_finish_0 A _ ⟨hM.1.1, c_faultOfText hM.1 hx h44 (fun σ1 hF f1 => ?_)⟩
  have fs1 : MF scF (scP A) A σ σ1 := f1.mo (fun f q => by unfold ftF at q; unfold scF; omega) (fun a j q => by unfold ptP at q; unfold scP; omega)
  have M1 : MR σ1 A S := hM.sc fs1
  have r1 : Fr (gP A) σ σ1 := fs1.fr (fun a j q => by unfold scP at q; unfold gP; omega)
  have t1 : gI σ1 704 A = gI σ 704 A := f1.gI (by unfold ftF; omega)
  have z1 := M1.1
  simp only [kI_i]
  unfold hand at hk
  by_cases h1 : flt xs lg = 1
  · rw [if_pos h1] at hk
    rw [if_pos (show nI (flt xs lg) = 1 by rw [h1]; rfl)]
    refine ⟨z1.1, c_addCase (r := 1) M1 (fun σ2 M2 f2 => ?_)⟩
    simp only [kV_v]
    exact hk σ2 M2 (by rw [f2.gI (by unfold caF; omega)]; exact t1) (r1.tr (f2.fr (fun a j q => by unfold caP at q; unfold gP; omega)))
  · rw [if_neg h1] at hk
    rw [if_neg (show ¬ nI (flt xs lg) = (1 : Int32) from fun q => h1 ((nI_eq_iff (b := 1) (by omega) (by omega)).mp q))]
    have h48 := hF.2.2.2.1 h1
    have hn1 : 1 ≤ hNum xs := by
      by_cases h : hNum xs = 0
      · exact absurd (by unfold flt; rw [if_pos h]) h1
      · omega
    have hn2 := @hNum_le xs
    rw [h48]
    have nm1 := (M1.2.1 c hc).nm
    refine ⟨z1.1, c_modIsDue z1 hc nm1 hn1 hn2 j3 j4 ?_⟩
    simp only [kI_i]
    have go : (due (sLa (S.1 c)) (sMi (S.1 c)) (hNum xs) = false → plc (sMi (S.1 c)) (hNum xs) < (sMi (S.1 c)).length) → PW (d + 4) M_Mod_finish 43 [.ref A, .int (nI c), .int (nI (flt xs lg))] [] σ1 K := by
      intro hd
      rw [if_neg (fun q => q.2 (hd q.1))] at hk
      refine e_Mod_finish_43 A _ _ ⟨z1.1, ?_⟩
      rw [M1.2.2.2.1.1, h48]
      by_cases h10 : S.2.1.length = 10
      · rw [if_pos h10] at hk
        rw [if_pos (by rw [h10]; rfl)]
        exact hk σ1 M1 t1 r1
      · rw [if_neg h10] at hk
        rw [if_neg (show ¬ nI S.2.1.length = (10 : Int32) from fun q => h10 ((nI_eq_iff (b := 10) (by omega) (by omega)).mp q))]
        refine c_modTake z1 hc nm1 hmx hn1 hn2 j3 j4 hd (fun σ2 n2 f2 => ?_)
        simp only [kV_v]
        have M2 := M1.chan f2.ch ((M1.2.1 c hc).nu hc f2 n2)
        have r2 : Fr (gP A) σ σ2 := r1.tr (f2.fr (fun a j q => by unfold nuP at q; unfold gP; omega))
        have t2 : gI σ2 704 A = gI σ 704 A := by rw [f2.gI id]; exact t1
        have z2 := M2.1
        by_cases hf0 : flt xs lg = 0
        · rw [if_neg (fun q => q hf0)] at hk
          rw [if_pos (show nI (flt xs lg) ≤ 0 by rw [hf0]; decide)]
          have hlg := flt_lg hf0
          subst hlg
          have hF2 : FM σ2 A xs false := by
            obtain ⟨a1, a2, a3, a4, a5⟩ := hF
            refine ⟨a1.mf f2 id (fun j => by unfold nuP; omega), a2.mf f2 id (fun j => by unfold nuP; omega), by rw [f2.gI id]; exact a3, fun q => by rw [f2.gI id]; exact a4 q, fun q => ?_⟩
            rw [f2.gI id, f2.gI id]
            exact a5 q
          refine ⟨z2.1, c_look (S := uC S c (wNu (S.1 c) (tkL (sLa (S.1 c)) (sMi (S.1 c)) (hNum xs)) (tkM (sLa (S.1 c)) (sMi (S.1 c)) (hNum xs)))) z2 M2.2.2.1 M2.cl hu hb hF2 hf0 (ind_lt hf0) (fun σ3 b hbb g3 q3 f3 => ?_)⟩
          simp only [kV_v]
          have fs3 : MF scF (scP A) A σ2 σ3 := f3.mo (fun f q => by unfold lkF at q; unfold scF; omega) (fun a j q => by unfold lkP at q; unfold scP; omega)
          have M3 := M2.sc fs3
          have r3 : Fr (gP A) σ σ3 := r2.tr (fs3.fr (fun a j q => by unfold scP at q; unfold gP; omega))
          have t3 : gI σ3 704 A = gI σ 704 A := by rw [f3.gI (by unfold lkF; omega)]; exact t2
          have hF3 : FM σ3 A xs false := by
            obtain ⟨a1, a2, a3, a4, a5⟩ := hF2
            refine ⟨a1.mf f3 (by unfold lkF; omega) (fun j => by unfold lkP; omega), a2.mf f3 (by unfold lkF; omega) (fun j => by unfold lkP; omega), by rw [f3.gI (by unfold lkF; omega)]; exact a3, fun q => by rw [f3.gI (by unfold lkF; omega)]; exact a4 q, fun q => ?_⟩
            rw [f3.gI (by unfold lkF; omega), f3.gI (by unfold lkF; omega)]
            exact a5 q
          refine ⟨M3.1.1, c_addMessage M3 (by show S.2.1.length < 10; omega) hF3 hf0 q3 (fun σ4 M4 f4 => ?_)⟩
          simp only [kV_v]
          have r4 : Fr (gP A) σ σ4 := r3.tr (f4.fr (fun a j q => by unfold nmP at q; unfold gP; omega))
          have t4 : gI σ4 704 A = gI σ 704 A := by rw [f4.gI (by unfold amF; omega)]; exact t3
          refine ⟨M4.1.1, ?_⟩
          rw [f4.gI (by unfold amF; omega), g3]
          by_cases hL : Lost S (hInd xs)
          · rw [if_neg (show ¬ nI b.toNat = 0 by rw [hbb.mpr hL]; decide)]
            rw [if_pos hL] at hk
            refine c_addCase (r := 5) M4 (fun σ5 M5 f5 => ?_)
            simp only [kV_v]
            exact hk σ5 M5 (by rw [f5.gI (by unfold caF; omega)]; exact t4) (r4.tr (f5.fr (fun a j q => by unfold caP at q; unfold gP; omega)))
          · have hbf : b = false := by cases b with | false => rfl | true => exact absurd (hbb.mp rfl) hL
            rw [if_pos (show nI b.toNat = 0 by rw [hbf]; decide)]
            rw [if_neg hL] at hk
            exact hk σ4 M4 t4 r4
        · rw [if_pos hf0] at hk
          rw [if_neg (show ¬ nI (flt xs lg) ≤ 0 from fun q => by have := (nI_le_iff (b := 0) (by omega) (by decide)).mp q; omega)]
          refine ⟨z2.1, c_addCase M2 (fun σ3 M3 f3 => ?_)⟩
          simp only [kV_v]
          exact hk σ3 M3 (by rw [f3.gI (by unfold caF; omega)]; exact t2) (r2.tr (f3.fr (fun a j q => by unfold caP at q; unfold gP; omega)))
    cases hdu : due (sLa (S.1 c)) (sMi (S.1 c)) (hNum xs) with
    | true =>
      rw [if_neg (by decide)]
      exact go (fun q => by rw [hdu] at q; exact absurd q (by decide))
    | false =>
      rw [if_pos (by decide), h48]
      refine ⟨z1.1, c_missingAt z1 hc nm1 hmx hn2 (fun r hr => ?_)⟩
      simp only [kI_i]
      by_cases hp : plc (sMi (S.1 c)) (hNum xs) < (sMi (S.1 c)).length
      · rw [if_pos (show (0 : Int32) ≤ r from hr.mpr hp)]
        exact go (fun _ => hp)
      · rw [if_neg (show ¬ (0 : Int32) ≤ r from fun q => hp (hr.mp q))]
        rw [if_pos ⟨hdu, hp⟩] at hk
        exact hk σ1 M1 t1 r1
end Mod9
