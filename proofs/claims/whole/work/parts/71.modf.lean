/-! ===== the reference: rerun, queued, trace, reason, clerk, resubmit, count ===== -/
section ModF
variable {d : Nat} {σ : PH} {K : PO → PH → Prop} {A : Nat} {S : SP} {c : Nat} {s : CS}
theorem fndS_at {l : List (Nat × Nat)} {k i : Nat} (hi : i < l.length) (h1 : ∀ j, j < i → (l.getD j (0, 0)).2 ≠ k) (h2 : (l.getD i (0, 0)).2 = k) : fndS l k = some (l.getD i (0, 0)) := by
  unfold fndS
  induction l generalizing i with
  | nil => exact absurd hi (Nat.not_lt_zero _)
  | cons p l ih =>
    cases i with
    | zero =>
      have h2 : p.2 = k := h2
      rw [List.find?_cons_of_pos (by rw [decide_eq_true h2])]
      rfl
    | succ i =>
      have h0 : p.2 ≠ k := h1 0 (by omega)
      rw [List.find?_cons_of_neg (by rw [decide_eq_false h0]; decide)]
      exact ih (by simpa using hi) (fun j hj => h1 (j + 1) (by omega)) h2
theorem fndS_none {l : List (Nat × Nat)} {k : Nat} (h1 : ∀ j, j < l.length → (l.getD j (0, 0)).2 ≠ k) : fndS l k = none := by
  unfold fndS
  rw [List.find?_eq_none]
  intro p hp
  obtain ⟨j, hj, e⟩ := List.mem_iff_getElem.mp hp
  have := h1 j hj
  rw [List.getD_eq_getElem?_getD, List.getElem?_eq_getElem hj, e] at this
  have this : p.2 ≠ k := this
  rw [decide_eq_false this]
  decide
theorem q_rerun {x y : Int32} {T : Nat} (hM : MR σ A S) (hI : Inv S T) (hT : T ≤ 600) (hkA : (x < 0 ∨ ¬ x ≤ 7) ∨ (y < 1 ∨ ¬ y ≤ 999) → Aft σ A S 1 (K (.inl (some (.int (nI 0)))))) (hkS : ∀ c k, c < 8 → x = nI c → 1 ≤ k → k ≤ 999 → y = nI k → (sAsk (S.1 c)).length = 3 → Aft σ A S 2 (K (.inl (some (.int (nI 0)))))) (hkO : ∀ c k, c < 8 → x = nI c → 1 ≤ k → k ≤ 999 → y = nI k → (sAsk (S.1 c)).length < 3 → Aft σ A (spRerun S c k).1 0 (K (.inl (some (.int (nI (spRerun S c k).2)))))) : PW (d + 2) M_Mod_rerun 0 [.ref A, .int x, .int y, uu, uu, uu] [] σ K := by
  have hz := hM.1
  have bad : ((x < 0 ∨ ¬ x ≤ 7) ∨ (y < 1 ∨ ¬ y ≤ 999)) → PW (d + 2) M_Mod_rerun 22 [.ref A, .int x, .int y, uu, uu, uu] [] σ K := by
    intro q
    refine e_Mod_rerun_22 A _ _ (e_Mod_rerun_23 A _ _ _ ?_)
    rw [if_pos rfl]
    refine e_Mod_rerun_48 A _ _ _ _ ⟨hz.1, c_refused (n := 1) hz (by omega) ?_⟩
    simp only [kI_i]
    rw [if_neg (by decide)]
    exact (hkA q).at hM
  refine e_Mod_rerun_0 A _ _ (c_isChannel (fun c hc ec => ?_) (fun q => ?_))
  · simp only [kI_i]
    rw [if_neg (by decide)]
    refine c_isIn (fun q1 q2 => ?_) (fun q => ?_)
    · simp only [kI_i]
      rw [if_neg (by decide)]
      obtain ⟨k, k1, k2, ek⟩ := rngN (n := 999) (by decide) q1 q2
      replace hkS := hkS c k hc ec k1 k2 ek
      replace hkO := hkO c k hc ec k1 k2 ek
      subst ec ek
      clear bad hkA
      have mc := hM.2.1 c hc
      obtain ⟨b1, b2, b3, b4, b5, b6, b7, b8, b9⟩ := mc.on
      obtain ⟨I1, I2, I3, I4, I5⟩ := hI
      obtain ⟨j1, j2, j3, j4, j5, j6, j7, j8, j9, j10, j11, j12, j13⟩ := I4 c hc
      refine e_Mod_rerun_23 A _ _ _ ?_
      rw [if_neg (by decide)]
      refine ⟨hz.1, A + 32, z_739 hz, 8, s_739 hz, in_n hc (by decide), ?_⟩
      rw [ix_n (by omega), b7]
      by_cases h3 : (sAsk (S.1 c)).length = 3
      · rw [if_pos (by rw [h3]; decide)]
        refine e_Mod_rerun_48 A _ _ _ _ ⟨hz.1, c_refused (n := 2) hz (by omega) ?_⟩
        simp only [kI_i]
        rw [if_neg (by decide)]
        exact (hkS h3).at hM
      · rw [if_neg (show ¬ nI (sAsk (S.1 c)).length = (3 : Int32) from fun q => h3 ((nI_eq_iff (b := 3) (by omega) (by decide)).mp q))]
        replace hkO := hkO (by omega)
        refine e_Mod_rerun_48 A _ _ _ _ ⟨hz.1, c_refused (n := 0) hz (by omega) ?_⟩
        simp only [kI_i]
        rw [if_pos (by decide)]
        have f0 : MF scF (chF A c) A σ (pI σ 704 A (nI 0)) := MF.pI (Or.inl rfl)
        have z0 := f0.z hz
        have loop : ∀ (n i : Nat), i + n = (sSent (S.1 c)).length → (∀ j, j < i → ((sSent (S.1 c)).getD j (0, 0)).2 ≠ k) → PW (d + 2) M_Mod_rerun 59 [.ref A, .int (nI c), .int (nI k), uu, .int (nI i), uu] [] (pI σ 704 A (nI 0)) K := by
          intro n
          induction n with
          | zero =>
            intro i hin hno
            refine e_Mod_rerun_59 A _ _ _ ?_
            simp (disch := omega) only [bs_pI, cc_pI, cs_pI, sh_pI, gR_pI, eI_pI, eR_pI, eL_pI, bs_pR, cc_pR, cs_pR, sh_pR, gI_pR, eI_pR, eR_pR, eL_pR, bs_uI, cc_uI, cs_uI, sh_uI, gI_uI, gR_uI, eR_uI, eL_uI, bs_uR, cc_uR, cs_uR, sh_uR, gI_uR, gR_uR, eI_uR, eL_uR, bs_uL, cc_uL, cs_uL, sh_uL, gI_uL, gR_uL, eI_uL, eR_uL, gI_s, gI_d, gR_s, gR_d, eI_s, eI_d, eI_e, eR_s, eR_d, eR_e, eL_s, eL_d, bs_bump, cc_bump, cs_bump, sh_bump, gI_bump, gR_bump, eI_bump, eR_bump, eL_bump, l_0, l_1, l_2, l_3, l_4, l_5, l_6, l_7, l_8, l_9, l_10, l_11, l_12, l_13, l_14, l_15, l_16, l_17, l_18, l_19, l_20, l_21, l_22, l_23, l_24, l_25, l_26, l_27, l_28, l_29, l_30, l_31, l_32, l_33, l_34, l_35, l_36, l_37, l_38, l_39, l_40, l_41, l_42, l_43, l_44, l_45, l_46, l_47, l_48, l_49, l_50, l_51, l_52, l_53, l_54, l_55, l_56, l_57, l_58, l_59, l_60, l_61, l_62, l_63, l_64, l_65, l_66, l_67, l_68, l_69, l_70, l_71, l_72, l_73, l_74, l_75, l_76, l_77, l_78, l_79, l_80, l_81, l_82, l_83, l_84, l_85, l_86, l_87, l_88, l_89, l_90, l_91, l_92, l_93, l_94, l_95, l_96, l_97, l_98, l_99, l_100, l_101, l_102, l_103, l_104, l_105, l_106, l_107, l_108, l_109, l_110, l_111, l_112, l_113, l_114, l_115, l_116, l_117, l_118, l_119, l_120, l_121, l_122, l_123, l_124, l_125, l_126, l_127, l_128, l_129, l_130, l_256, l_512, l_676, l_704, l_999, l_1000, l_4096, l_17576, l_32768, l_65535, l_456975, l_456976, l_m1, l_m2, in_iff, eq_m1, m1_eq, m1_lt, m1_le, le_m1, lt_m1, eq_m2, m2_m1, m1_m2, add_m1, m1_add, sub_n, mul_n, add_n, bo_n0, bo_n1, ch_n, lt_n, le_n, eq_n, ix_n, i2c_n, rem_n, div_n, kI_i, kI_x, kV_v, kV_x, kR_r, kR_n, kR_x, kHI_i, kHI_0, kHI_1, kHV_v, kHV_0, kHV_1, va_s, va_n, exists_eq_left', exists_eq_left, forall_eq, forall_eq', and_true, true_and, and_self, Option.some.injEq, Prod.mk.injEq, if_tt, if_ff, reduceIte, reduceCtorEq, not_true_eq_false, not_false_eq_true, Nat.reduceAdd, Nat.reduceMul, Nat.reduceSub, Nat.reduceLT, Nat.reduceLeDiff, Nat.reduceEqDiff, false_implies, true_implies, implies_true, hz.1, z_736 hz, s_736 hz, b4]
            rw [if_pos (by omega)]
            have e : fndS (sSent (S.1 c)) k = none := fndS_none (fun j hj => hno j (by omega))
            unfold spRerun at hkO
            rw [e] at hkO
            exact ⟨hc, hkO.at hM⟩
          | succ n ih =>
            intro i hin hno
            have hmem : (sSent (S.1 c)).getD i (0, 0) ∈ sSent (S.1 c) := by
              rw [List.getD_eq_getElem?_getD, List.getElem?_eq_getElem (by omega)]
              exact List.getElem_mem (by omega)
            have hb := j12 _ (Or.inl hmem)
            refine e_Mod_rerun_59 A _ _ _ ?_
            simp (disch := omega) only [bs_pI, cc_pI, cs_pI, sh_pI, gR_pI, eI_pI, eR_pI, eL_pI, bs_pR, cc_pR, cs_pR, sh_pR, gI_pR, eI_pR, eR_pR, eL_pR, bs_uI, cc_uI, cs_uI, sh_uI, gI_uI, gR_uI, eR_uI, eL_uI, bs_uR, cc_uR, cs_uR, sh_uR, gI_uR, gR_uR, eI_uR, eL_uR, bs_uL, cc_uL, cs_uL, sh_uL, gI_uL, gR_uL, eI_uL, eR_uL, gI_s, gI_d, gR_s, gR_d, eI_s, eI_d, eI_e, eR_s, eR_d, eR_e, eL_s, eL_d, bs_bump, cc_bump, cs_bump, sh_bump, gI_bump, gR_bump, eI_bump, eR_bump, eL_bump, l_0, l_1, l_2, l_3, l_4, l_5, l_6, l_7, l_8, l_9, l_10, l_11, l_12, l_13, l_14, l_15, l_16, l_17, l_18, l_19, l_20, l_21, l_22, l_23, l_24, l_25, l_26, l_27, l_28, l_29, l_30, l_31, l_32, l_33, l_34, l_35, l_36, l_37, l_38, l_39, l_40, l_41, l_42, l_43, l_44, l_45, l_46, l_47, l_48, l_49, l_50, l_51, l_52, l_53, l_54, l_55, l_56, l_57, l_58, l_59, l_60, l_61, l_62, l_63, l_64, l_65, l_66, l_67, l_68, l_69, l_70, l_71, l_72, l_73, l_74, l_75, l_76, l_77, l_78, l_79, l_80, l_81, l_82, l_83, l_84, l_85, l_86, l_87, l_88, l_89, l_90, l_91, l_92, l_93, l_94, l_95, l_96, l_97, l_98, l_99, l_100, l_101, l_102, l_103, l_104, l_105, l_106, l_107, l_108, l_109, l_110, l_111, l_112, l_113, l_114, l_115, l_116, l_117, l_118, l_119, l_120, l_121, l_122, l_123, l_124, l_125, l_126, l_127, l_128, l_129, l_130, l_256, l_512, l_676, l_704, l_999, l_1000, l_4096, l_17576, l_32768, l_65535, l_456975, l_456976, l_m1, l_m2, in_iff, eq_m1, m1_eq, m1_lt, m1_le, le_m1, lt_m1, eq_m2, m2_m1, m1_m2, add_m1, m1_add, sub_n, mul_n, add_n, bo_n0, bo_n1, ch_n, lt_n, le_n, eq_n, ix_n, i2c_n, rem_n, div_n, kI_i, kI_x, kV_v, kV_x, kR_r, kR_n, kR_x, kHI_i, kHI_0, kHI_1, kHV_v, kHV_0, kHV_1, va_s, va_n, exists_eq_left', exists_eq_left, forall_eq, forall_eq', and_true, true_and, and_self, Option.some.injEq, Prod.mk.injEq, if_tt, if_ff, reduceIte, reduceCtorEq, not_true_eq_false, not_false_eq_true, Nat.reduceAdd, Nat.reduceMul, Nat.reduceSub, Nat.reduceLT, Nat.reduceLeDiff, Nat.reduceEqDiff, false_implies, true_implies, implies_true, hz.1, z_736 hz, s_736 hz, z_738 hz, s_738 hz, b4]
            rw [if_neg (by omega), (b6 i (by omega)).2]
            simp (disch := omega) only [eq_n]
            refine ⟨hc, by omega, ?_⟩
            by_cases he : ((sSent (S.1 c)).getD i (0, 0)).2 = k
            · rw [if_pos he]
              have e := fndS_at (l := sSent (S.1 c)) (k := k) (i := i) (by omega) hno he
              unfold spRerun at hkO
              rw [e] at hkO
              simp (disch := omega) only [bs_pI, cc_pI, cs_pI, sh_pI, gR_pI, eI_pI, eR_pI, eL_pI, bs_pR, cc_pR, cs_pR, sh_pR, gI_pR, eI_pR, eR_pR, eL_pR, bs_uI, cc_uI, cs_uI, sh_uI, gI_uI, gR_uI, eR_uI, eL_uI, bs_uR, cc_uR, cs_uR, sh_uR, gI_uR, gR_uR, eI_uR, eL_uR, bs_uL, cc_uL, cs_uL, sh_uL, gI_uL, gR_uL, eI_uL, eR_uL, gI_s, gI_d, gR_s, gR_d, eI_s, eI_d, eI_e, eR_s, eR_d, eR_e, eL_s, eL_d, bs_bump, cc_bump, cs_bump, sh_bump, gI_bump, gR_bump, eI_bump, eR_bump, eL_bump, l_0, l_1, l_2, l_3, l_4, l_5, l_6, l_7, l_8, l_9, l_10, l_11, l_12, l_13, l_14, l_15, l_16, l_17, l_18, l_19, l_20, l_21, l_22, l_23, l_24, l_25, l_26, l_27, l_28, l_29, l_30, l_31, l_32, l_33, l_34, l_35, l_36, l_37, l_38, l_39, l_40, l_41, l_42, l_43, l_44, l_45, l_46, l_47, l_48, l_49, l_50, l_51, l_52, l_53, l_54, l_55, l_56, l_57, l_58, l_59, l_60, l_61, l_62, l_63, l_64, l_65, l_66, l_67, l_68, l_69, l_70, l_71, l_72, l_73, l_74, l_75, l_76, l_77, l_78, l_79, l_80, l_81, l_82, l_83, l_84, l_85, l_86, l_87, l_88, l_89, l_90, l_91, l_92, l_93, l_94, l_95, l_96, l_97, l_98, l_99, l_100, l_101, l_102, l_103, l_104, l_105, l_106, l_107, l_108, l_109, l_110, l_111, l_112, l_113, l_114, l_115, l_116, l_117, l_118, l_119, l_120, l_121, l_122, l_123, l_124, l_125, l_126, l_127, l_128, l_129, l_130, l_256, l_512, l_676, l_704, l_999, l_1000, l_4096, l_17576, l_32768, l_65535, l_456975, l_456976, l_m1, l_m2, in_iff, eq_m1, m1_eq, m1_lt, m1_le, le_m1, lt_m1, eq_m2, m2_m1, m1_m2, add_m1, m1_add, sub_n, mul_n, add_n, bo_n0, bo_n1, ch_n, lt_n, le_n, eq_n, ix_n, i2c_n, rem_n, div_n, kI_i, kI_x, kV_v, kV_x, kR_r, kR_n, kR_x, kHI_i, kHI_0, kHI_1, kHV_v, kHV_0, kHV_1, va_s, va_n, exists_eq_left', exists_eq_left, forall_eq, forall_eq', and_true, true_and, and_self, Option.some.injEq, Prod.mk.injEq, if_tt, if_ff, reduceIte, reduceCtorEq, not_true_eq_false, not_false_eq_true, Nat.reduceAdd, Nat.reduceMul, Nat.reduceSub, Nat.reduceLT, Nat.reduceLeDiff, Nat.reduceEqDiff, false_implies, true_implies, implies_true, hz.1, z_737 hz, s_737 hz, z_739 hz, s_739 hz, z_740 hz, s_740 hz, z_741 hz, s_741 hz, b7, (b6 i (by omega)).1]
              refine ⟨hc, by omega, by omega, by omega, hc, hc, ?_⟩
              have f1 : MF noF (ouP A c) A (pI σ 704 A (nI 0)) (uI (uI (uI (pI σ 704 A (nI 0)) (A + 33) (3 * c + (sAsk (S.1 c)).length) (nI ((sSent (S.1 c)).getD i (0, 0)).1)) (A + 34) (3 * c + (sAsk (S.1 c)).length) (nI k)) (A + 32) c (nI ((sAsk (S.1 c)).length + 1))) := ((MF.uI (by unfold ouP; omega)).tr (MF.uI (by unfold ouP; omega))).tr (MF.uI (by unfold ouP; omega))
              have M0 : MR (pI σ 704 A (nI 0)) A S := hM.sc sc704
              have mc0 := M0.2.1 c hc
              refine hkO _ (M0.chan f1.ouc (mc0.ou f1.ouo ⟨?_, ?_, fun q => ?_, ?_, b5, fun i' hi' => ?_, ?_, ?_, fun i' hi' => ?_⟩)) (by simp (disch := omega) only [bs_pI, cc_pI, cs_pI, sh_pI, gR_pI, eI_pI, eR_pI, eL_pI, bs_pR, cc_pR, cs_pR, sh_pR, gI_pR, eI_pR, eR_pR, eL_pR, bs_uI, cc_uI, cs_uI, sh_uI, gI_uI, gR_uI, eR_uI, eL_uI, bs_uR, cc_uR, cs_uR, sh_uR, gI_uR, gR_uR, eI_uR, eL_uR, bs_uL, cc_uL, cs_uL, sh_uL, gI_uL, gR_uL, eI_uL, eR_uL, gI_s, gI_d, gR_s, gR_d, eI_s, eI_d, eI_e, eR_s, eR_d, eR_e, eL_s, eL_d, bs_bump, cc_bump, cs_bump, sh_bump, gI_bump, gR_bump, eI_bump, eR_bump, eL_bump]) (fr704.tr f1.ouo.ouf)
              · simp (disch := omega) only [bs_pI, cc_pI, cs_pI, sh_pI, gR_pI, eI_pI, eR_pI, eL_pI, bs_pR, cc_pR, cs_pR, sh_pR, gI_pR, eI_pR, eR_pR, eL_pR, bs_uI, cc_uI, cs_uI, sh_uI, gI_uI, gR_uI, eR_uI, eL_uI, bs_uR, cc_uR, cs_uR, sh_uR, gI_uR, gR_uR, eI_uR, eL_uR, bs_uL, cc_uL, cs_uL, sh_uL, gI_uL, gR_uL, eI_uL, eR_uL, gI_s, gI_d, gR_s, gR_d, eI_s, eI_d, eI_e, eR_s, eR_d, eR_e, eL_s, eL_d, bs_bump, cc_bump, cs_bump, sh_bump, gI_bump, gR_bump, eI_bump, eR_bump, eL_bump]; exact b1
              · simp (disch := omega) only [bs_pI, cc_pI, cs_pI, sh_pI, gR_pI, eI_pI, eR_pI, eL_pI, bs_pR, cc_pR, cs_pR, sh_pR, gI_pR, eI_pR, eR_pR, eL_pR, bs_uI, cc_uI, cs_uI, sh_uI, gI_uI, gR_uI, eR_uI, eL_uI, bs_uR, cc_uR, cs_uR, sh_uR, gI_uR, gR_uR, eI_uR, eL_uR, bs_uL, cc_uL, cs_uL, sh_uL, gI_uL, gR_uL, eI_uL, eR_uL, gI_s, gI_d, gR_s, gR_d, eI_s, eI_d, eI_e, eR_s, eR_d, eR_e, eL_s, eL_d, bs_bump, cc_bump, cs_bump, sh_bump, gI_bump, gR_bump, eI_bump, eR_bump, eL_bump]; exact b2
              · simp (disch := omega) only [bs_pI, cc_pI, cs_pI, sh_pI, gR_pI, eI_pI, eR_pI, eL_pI, bs_pR, cc_pR, cs_pR, sh_pR, gI_pR, eI_pR, eR_pR, eL_pR, bs_uI, cc_uI, cs_uI, sh_uI, gI_uI, gR_uI, eR_uI, eL_uI, bs_uR, cc_uR, cs_uR, sh_uR, gI_uR, gR_uR, eI_uR, eL_uR, bs_uL, cc_uL, cs_uL, sh_uL, gI_uL, gR_uL, eI_uL, eR_uL, gI_s, gI_d, gR_s, gR_d, eI_s, eI_d, eI_e, eR_s, eR_d, eR_e, eL_s, eL_d, bs_bump, cc_bump, cs_bump, sh_bump, gI_bump, gR_bump, eI_bump, eR_bump, eL_bump]; exact b3 q
              · simp (disch := omega) only [bs_pI, cc_pI, cs_pI, sh_pI, gR_pI, eI_pI, eR_pI, eL_pI, bs_pR, cc_pR, cs_pR, sh_pR, gI_pR, eI_pR, eR_pR, eL_pR, bs_uI, cc_uI, cs_uI, sh_uI, gI_uI, gR_uI, eR_uI, eL_uI, bs_uR, cc_uR, cs_uR, sh_uR, gI_uR, gR_uR, eI_uR, eL_uR, bs_uL, cc_uL, cs_uL, sh_uL, gI_uL, gR_uL, eI_uL, eR_uL, gI_s, gI_d, gR_s, gR_d, eI_s, eI_d, eI_e, eR_s, eR_d, eR_e, eL_s, eL_d, bs_bump, cc_bump, cs_bump, sh_bump, gI_bump, gR_bump, eI_bump, eR_bump, eL_bump]; exact b4
              · simp (disch := omega) only [bs_pI, cc_pI, cs_pI, sh_pI, gR_pI, eI_pI, eR_pI, eL_pI, bs_pR, cc_pR, cs_pR, sh_pR, gI_pR, eI_pR, eR_pR, eL_pR, bs_uI, cc_uI, cs_uI, sh_uI, gI_uI, gR_uI, eR_uI, eL_uI, bs_uR, cc_uR, cs_uR, sh_uR, gI_uR, gR_uR, eI_uR, eL_uR, bs_uL, cc_uL, cs_uL, sh_uL, gI_uL, gR_uL, eI_uL, eR_uL, gI_s, gI_d, gR_s, gR_d, eI_s, eI_d, eI_e, eR_s, eR_d, eR_e, eL_s, eL_d, bs_bump, cc_bump, cs_bump, sh_bump, gI_bump, gR_bump, eI_bump, eR_bump, eL_bump]; exact b6 i' hi'
              · simp (disch := omega) only [bs_pI, cc_pI, cs_pI, sh_pI, gR_pI, eI_pI, eR_pI, eL_pI, bs_pR, cc_pR, cs_pR, sh_pR, gI_pR, eI_pR, eR_pR, eL_pR, bs_uI, cc_uI, cs_uI, sh_uI, gI_uI, gR_uI, eR_uI, eL_uI, bs_uR, cc_uR, cs_uR, sh_uR, gI_uR, gR_uR, eI_uR, eL_uR, bs_uL, cc_uL, cs_uL, sh_uL, gI_uL, gR_uL, eI_uL, eR_uL, gI_s, gI_d, gR_s, gR_d, eI_s, eI_d, eI_e, eR_s, eR_d, eR_e, eL_s, eL_d, bs_bump, cc_bump, cs_bump, sh_bump, gI_bump, gR_bump, eI_bump, eR_bump, eL_bump]
                show _ = nI (sAsk (S.1 c) ++ [_]).length
                rw [List.length_append, List.length_singleton]
              · show (sAsk (S.1 c) ++ [_]).length ≤ 3
                rw [List.length_append, List.length_singleton]; omega
              · have hi' : i' < (sAsk (S.1 c) ++ [(sSent (S.1 c)).getD i (0, 0)]).length := hi'
                rw [List.length_append, List.length_singleton] at hi'
                show eI _ _ _ = nI ((sAsk (S.1 c) ++ [(sSent (S.1 c)).getD i (0, 0)]).getD i' (0, 0)).1 ∧ eI _ _ _ = nI ((sAsk (S.1 c) ++ [(sSent (S.1 c)).getD i (0, 0)]).getD i' (0, 0)).2
                rw [getD_snocP]
                by_cases hil : i' < (sAsk (S.1 c)).length
                · rw [if_pos hil]; simp (disch := omega) only [bs_pI, cc_pI, cs_pI, sh_pI, gR_pI, eI_pI, eR_pI, eL_pI, bs_pR, cc_pR, cs_pR, sh_pR, gI_pR, eI_pR, eR_pR, eL_pR, bs_uI, cc_uI, cs_uI, sh_uI, gI_uI, gR_uI, eR_uI, eL_uI, bs_uR, cc_uR, cs_uR, sh_uR, gI_uR, gR_uR, eI_uR, eL_uR, bs_uL, cc_uL, cs_uL, sh_uL, gI_uL, gR_uL, eI_uL, eR_uL, gI_s, gI_d, gR_s, gR_d, eI_s, eI_d, eI_e, eR_s, eR_d, eR_e, eL_s, eL_d, bs_bump, cc_bump, cs_bump, sh_bump, gI_bump, gR_bump, eI_bump, eR_bump, eL_bump]; exact b9 i' hil
                · have hie : i' = (sAsk (S.1 c)).length := by omega
                  subst hie
                  rw [if_neg hil, if_pos rfl, he]; simp (disch := omega) only [bs_pI, cc_pI, cs_pI, sh_pI, gR_pI, eI_pI, eR_pI, eL_pI, bs_pR, cc_pR, cs_pR, sh_pR, gI_pR, eI_pR, eR_pR, eL_pR, bs_uI, cc_uI, cs_uI, sh_uI, gI_uI, gR_uI, eR_uI, eL_uI, bs_uR, cc_uR, cs_uR, sh_uR, gI_uR, gR_uR, eI_uR, eL_uR, bs_uL, cc_uL, cs_uL, sh_uL, gI_uL, gR_uL, eI_uL, eR_uL, gI_s, gI_d, gR_s, gR_d, eI_s, eI_d, eI_e, eR_s, eR_d, eR_e, eL_s, eL_d, bs_bump, cc_bump, cs_bump, sh_bump, gI_bump, gR_bump, eI_bump, eR_bump, eL_bump]; exact ⟨by first | trivial | rfl, by first | trivial | rfl⟩
            · rw [if_neg he]
              refine ih (i + 1) (by omega) (fun j hj => ?_)
              by_cases hji : j = i
              · rw [hji]; exact he
              · exact hno j (by omega)
        exact loop (sSent (S.1 c)).length 0 (by omega) (fun j hj => absurd hj (Nat.not_lt_zero _))
    · simp only [kI_i]
      rw [if_pos (by decide)]
      exact bad (Or.inr q)
  · simp only [kI_i]
    rw [if_pos (by decide)]
    exact bad (Or.inl q)
theorem q_queued {x y : Int32} (hM : MR σ A S) (hB : Bt S.2.1) (hkA : (x < 0 ∨ ¬ x ≤ 7) ∨ (y < 1 ∨ ¬ y ≤ 4) → Aft σ A S 1 (K (.inl (some (.int (nI 0)))))) (hk : ∀ c p, c < 8 → 1 ≤ p → p ≤ 4 → x = nI c → y = nI p → Aft σ A S 0 (K (.inl (some (.int (nI (qF S.2.1 c p S.2.1.length))))))) : PW (d + 2) M_Mod_queued 0 [.ref A, .int x, .int y, uu, uu] [] σ K := by
  have hz := hM.1
  have bad : ((x < 0 ∨ ¬ x ≤ 7) ∨ (y < 1 ∨ ¬ y ≤ 4)) → PW (d + 2) M_Mod_queued 21 [.ref A, .int x, .int y, uu, uu] [.ref A] σ K := by
    intro q
    refine e_Mod_queued_21 A _ _ _ (e_Mod_queued_22 A _ _ _ _ ⟨hz.1, c_refused (n := 1) hz (by omega) ?_⟩)
    simp only [kI_i]
    rw [if_neg (by decide)]
    exact (hkA q).at hM
  refine e_Mod_queued_0 A _ _ (c_isChannel (fun c hc ec => ?_) (fun q => ?_))
  · simp only [kI_i]
    rw [if_neg (by decide)]
    refine c_isIn (fun q1 q2 => ?_) (fun q => ?_)
    · simp only [kI_i]
      rw [if_neg (by decide)]
      obtain ⟨p, p1, p2, ep⟩ := rngN (n := 4) (by decide) q1 q2
      replace hk := hk c p hc p1 p2 ec ep
      subst ec ep
      clear bad hkA
      obtain ⟨m1', m2', m3'⟩ := hM.2.2.2.1
      refine e_Mod_queued_22 A _ _ _ _ ⟨hz.1, c_refused (n := 0) hz (by omega) ?_⟩
      simp only [kI_i]
      rw [if_pos (by decide)]
      have loop : ∀ (n m : Nat), m + n = S.2.1.length + 1 → 1 ≤ m → qF S.2.1 c p (m - 1) ≤ m → PW (d + 2) M_Mod_queued 35 [.ref A, .int (nI c), .int (nI p), .int (nI (qF S.2.1 c p (m - 1))), .int (nI m)] [] (pI σ 704 A (nI 0)) K := by
        intro n
        induction n with
        | zero =>
          intro m hmn h1 hq
          refine e_Mod_queued_35 A _ _ _ _ ?_
          simp (disch := omega) only [bs_pI, cc_pI, cs_pI, sh_pI, gR_pI, eI_pI, eR_pI, eL_pI, bs_pR, cc_pR, cs_pR, sh_pR, gI_pR, eI_pR, eR_pR, eL_pR, bs_uI, cc_uI, cs_uI, sh_uI, gI_uI, gR_uI, eR_uI, eL_uI, bs_uR, cc_uR, cs_uR, sh_uR, gI_uR, gR_uR, eI_uR, eL_uR, bs_uL, cc_uL, cs_uL, sh_uL, gI_uL, gR_uL, eI_uL, eR_uL, gI_s, gI_d, gR_s, gR_d, eI_s, eI_d, eI_e, eR_s, eR_d, eR_e, eL_s, eL_d, bs_bump, cc_bump, cs_bump, sh_bump, gI_bump, gR_bump, eI_bump, eR_bump, eL_bump, l_0, l_1, l_2, l_3, l_4, l_5, l_6, l_7, l_8, l_9, l_10, l_11, l_12, l_13, l_14, l_15, l_16, l_17, l_18, l_19, l_20, l_21, l_22, l_23, l_24, l_25, l_26, l_27, l_28, l_29, l_30, l_31, l_32, l_33, l_34, l_35, l_36, l_37, l_38, l_39, l_40, l_41, l_42, l_43, l_44, l_45, l_46, l_47, l_48, l_49, l_50, l_51, l_52, l_53, l_54, l_55, l_56, l_57, l_58, l_59, l_60, l_61, l_62, l_63, l_64, l_65, l_66, l_67, l_68, l_69, l_70, l_71, l_72, l_73, l_74, l_75, l_76, l_77, l_78, l_79, l_80, l_81, l_82, l_83, l_84, l_85, l_86, l_87, l_88, l_89, l_90, l_91, l_92, l_93, l_94, l_95, l_96, l_97, l_98, l_99, l_100, l_101, l_102, l_103, l_104, l_105, l_106, l_107, l_108, l_109, l_110, l_111, l_112, l_113, l_114, l_115, l_116, l_117, l_118, l_119, l_120, l_121, l_122, l_123, l_124, l_125, l_126, l_127, l_128, l_129, l_130, l_256, l_512, l_676, l_704, l_999, l_1000, l_4096, l_17576, l_32768, l_65535, l_456975, l_456976, l_m1, l_m2, in_iff, eq_m1, m1_eq, m1_lt, m1_le, le_m1, lt_m1, eq_m2, m2_m1, m1_m2, add_m1, m1_add, sub_n, mul_n, add_n, bo_n0, bo_n1, ch_n, lt_n, le_n, eq_n, ix_n, i2c_n, rem_n, div_n, kI_i, kI_x, kV_v, kV_x, kR_r, kR_n, kR_x, kHI_i, kHI_0, kHI_1, kHV_v, kHV_0, kHV_1, va_s, va_n, exists_eq_left', exists_eq_left, forall_eq, forall_eq', and_true, true_and, and_self, Option.some.injEq, Prod.mk.injEq, if_tt, if_ff, reduceIte, reduceCtorEq, not_true_eq_false, not_false_eq_true, Nat.reduceAdd, Nat.reduceMul, Nat.reduceSub, Nat.reduceLT, Nat.reduceLeDiff, Nat.reduceEqDiff, false_implies, true_implies, implies_true, hz.1, z_725 hz, s_725 hz, m1']
          rw [if_pos (by omega), show m - 1 = S.2.1.length by omega]
          exact hk.at hM
        | succ n ih =>
          intro m hmn h1 hq
          have hqm : qF S.2.1 c p m = if (msg S.2.1 m).2.2.2 c = 1 ∧ (msg S.2.1 m).1 = p then qF S.2.1 c p (m - 1) + 1 else qF S.2.1 c p (m - 1) := by
            obtain ⟨m', rfl⟩ : ∃ m', m = m' + 1 := ⟨m - 1, by omega⟩
            rw [qF]; rfl
          have hqle : qF S.2.1 c p m ≤ m + 1 := by rw [hqm]; split <;> omega
          have nx : PW (d + 2) M_Mod_queued 78 [.ref A, .int (nI c), .int (nI p), uu, .int (nI m)] [.int (nI (qF S.2.1 c p m))] (pI σ 704 A (nI 0)) K := by
            refine e_Mod_queued_78 A _ _ _ _ ?_
            rw [nI_1]
            have := ih (m + 1) (by omega) (by omega) (by rw [show m + 1 - 1 = m by omega]; exact hqle)
            rw [show m + 1 - 1 = m by omega] at this
            exact this
          obtain ⟨a1, a2, a3, a4, a5, a6, a7, a8⟩ := m3' m h1 (by omega)
          have hp1 := (hB m h1 (by omega)).1
          refine e_Mod_queued_35 A _ _ _ _ ?_
          simp (disch := omega) only [bs_pI, cc_pI, cs_pI, sh_pI, gR_pI, eI_pI, eR_pI, eL_pI, bs_pR, cc_pR, cs_pR, sh_pR, gI_pR, eI_pR, eR_pR, eL_pR, bs_uI, cc_uI, cs_uI, sh_uI, gI_uI, gR_uI, eR_uI, eL_uI, bs_uR, cc_uR, cs_uR, sh_uR, gI_uR, gR_uR, eI_uR, eL_uR, bs_uL, cc_uL, cs_uL, sh_uL, gI_uL, gR_uL, eI_uL, eR_uL, gI_s, gI_d, gR_s, gR_d, eI_s, eI_d, eI_e, eR_s, eR_d, eR_e, eL_s, eL_d, bs_bump, cc_bump, cs_bump, sh_bump, gI_bump, gR_bump, eI_bump, eR_bump, eL_bump, l_0, l_1, l_2, l_3, l_4, l_5, l_6, l_7, l_8, l_9, l_10, l_11, l_12, l_13, l_14, l_15, l_16, l_17, l_18, l_19, l_20, l_21, l_22, l_23, l_24, l_25, l_26, l_27, l_28, l_29, l_30, l_31, l_32, l_33, l_34, l_35, l_36, l_37, l_38, l_39, l_40, l_41, l_42, l_43, l_44, l_45, l_46, l_47, l_48, l_49, l_50, l_51, l_52, l_53, l_54, l_55, l_56, l_57, l_58, l_59, l_60, l_61, l_62, l_63, l_64, l_65, l_66, l_67, l_68, l_69, l_70, l_71, l_72, l_73, l_74, l_75, l_76, l_77, l_78, l_79, l_80, l_81, l_82, l_83, l_84, l_85, l_86, l_87, l_88, l_89, l_90, l_91, l_92, l_93, l_94, l_95, l_96, l_97, l_98, l_99, l_100, l_101, l_102, l_103, l_104, l_105, l_106, l_107, l_108, l_109, l_110, l_111, l_112, l_113, l_114, l_115, l_116, l_117, l_118, l_119, l_120, l_121, l_122, l_123, l_124, l_125, l_126, l_127, l_128, l_129, l_130, l_256, l_512, l_676, l_704, l_999, l_1000, l_4096, l_17576, l_32768, l_65535, l_456975, l_456976, l_m1, l_m2, in_iff, eq_m1, m1_eq, m1_lt, m1_le, le_m1, lt_m1, eq_m2, m2_m1, m1_m2, add_m1, m1_add, sub_n, mul_n, add_n, bo_n0, bo_n1, ch_n, lt_n, le_n, eq_n, ix_n, i2c_n, rem_n, div_n, kI_i, kI_x, kV_v, kV_x, kR_r, kR_n, kR_x, kHI_i, kHI_0, kHI_1, kHV_v, kHV_0, kHV_1, va_s, va_n, exists_eq_left', exists_eq_left, forall_eq, forall_eq', and_true, true_and, and_self, Option.some.injEq, Prod.mk.injEq, if_tt, if_ff, reduceIte, reduceCtorEq, not_true_eq_false, not_false_eq_true, Nat.reduceAdd, Nat.reduceMul, Nat.reduceSub, Nat.reduceLT, Nat.reduceLeDiff, Nat.reduceEqDiff, false_implies, true_implies, implies_true, hz.1, z_725 hz, s_725 hz, z_720 hz, s_720 hz, m1', a1]
          rw [if_neg (by omega), (a8 c hc).1]
          simp (disch := omega) only [eq_n]
          refine ⟨by omega, ?_⟩
          by_cases hF : (msg S.2.1 m).2.2.2 c = 1
          · rw [if_pos (by omega)]
            refine ⟨by omega, ?_⟩
            by_cases hp : (msg S.2.1 m).1 = p
            · rw [if_pos hp]
              rw [if_pos ⟨hF, hp⟩] at hqm
              rw [hqm] at nx
              exact nx
            · rw [if_neg hp]
              rw [if_neg (fun q => hp q.2)] at hqm
              rw [hqm] at nx
              exact e_Mod_queued_77 A _ _ _ _ nx
          · rw [if_neg (by omega)]
            rw [if_neg (fun q => hF q.1)] at hqm
            rw [hqm] at nx
            exact e_Mod_queued_77 A _ _ _ _ nx
      exact loop S.2.1.length 1 (by omega) (by omega) (Nat.zero_le _)
    · simp only [kI_i]
      rw [if_pos (by decide)]
      exact bad (Or.inr q)
  · simp only [kI_i]
    rw [if_pos (by decide)]
    exact bad (Or.inl q)
theorem q_trace {x y : Int32} (hM : MR σ A S) (hB : Bd S) (hkA : (x < 1 ∨ ¬ x ≤ nI S.2.1.length) ∨ (y < 0 ∨ ¬ y ≤ 7) → Aft σ A S 1 (K (.inl (some (.int (nI 0)))))) (hk : ∀ m c, c < 8 → 1 ≤ m → m ≤ S.2.1.length → x = nI m → y = nI c → Aft σ A S 0 (K (.inl (some (.int (trI ((msg S.2.1 m).2.2.2 c))))))) : PW (d + 2) M_Mod_trace 0 [.ref A, .int x, .int y, uu] [] σ K := by
  have hz := hM.1
  obtain ⟨m1', m2', m3'⟩ := hM.2.2.2.1
  have bad : ((x < 1 ∨ ¬ x ≤ nI S.2.1.length) ∨ (y < 0 ∨ ¬ y ≤ 7)) → PW (d + 2) M_Mod_trace 24 [.ref A, .int x, .int y, uu] [.ref A] σ K := by
    intro q
    refine e_Mod_trace_24 A _ _ _ (e_Mod_trace_25 A _ _ _ _ ⟨hz.1, c_refused (n := 1) hz (by omega) ?_⟩)
    simp only [kI_i]
    rw [if_neg (by decide)]
    exact (hkA q).at hM
  refine e_Mod_trace_0 A _ _ ⟨hz.1, ?_⟩
  rw [m1']
  refine c_isIn (fun q1 q2 => ?_) (fun q => ?_)
  · simp only [kI_i]
    rw [if_neg (by decide)]
    obtain ⟨m, hm1, hm2, em⟩ := rngN (by omega) q1 q2
    refine c_isChannel (fun c hc ec => ?_) (fun q => ?_)
    · simp only [kI_i]
      rw [if_neg (by decide)]
      replace hk := hk m c hc hm1 hm2 em ec
      subst em ec
      clear bad hkA
      refine e_Mod_trace_25 A _ _ _ _ ⟨hz.1, c_refused (n := 0) hz (by omega) ?_⟩
      simp only [kI_i]
      rw [if_pos (by decide)]
      obtain ⟨a1, a2, a3, a4, a5, a6, a7, a8⟩ := m3' m hm1 hm2
      obtain ⟨c1, c2⟩ := a8 c hc
      have hF := (hB.1 m hm1 hm2).2.2.2.2.2.1 c hc
      replace hk := hk.at hM
      simp (disch := omega) only [bs_pI, cc_pI, cs_pI, sh_pI, gR_pI, eI_pI, eR_pI, eL_pI, bs_pR, cc_pR, cs_pR, sh_pR, gI_pR, eI_pR, eR_pR, eL_pR, bs_uI, cc_uI, cs_uI, sh_uI, gI_uI, gR_uI, eR_uI, eL_uI, bs_uR, cc_uR, cs_uR, sh_uR, gI_uR, gR_uR, eI_uR, eL_uR, bs_uL, cc_uL, cs_uL, sh_uL, gI_uL, gR_uL, eI_uL, eR_uL, gI_s, gI_d, gR_s, gR_d, eI_s, eI_d, eI_e, eR_s, eR_d, eR_e, eL_s, eL_d, bs_bump, cc_bump, cs_bump, sh_bump, gI_bump, gR_bump, eI_bump, eR_bump, eL_bump, l_0, l_1, l_2, l_3, l_4, l_5, l_6, l_7, l_8, l_9, l_10, l_11, l_12, l_13, l_14, l_15, l_16, l_17, l_18, l_19, l_20, l_21, l_22, l_23, l_24, l_25, l_26, l_27, l_28, l_29, l_30, l_31, l_32, l_33, l_34, l_35, l_36, l_37, l_38, l_39, l_40, l_41, l_42, l_43, l_44, l_45, l_46, l_47, l_48, l_49, l_50, l_51, l_52, l_53, l_54, l_55, l_56, l_57, l_58, l_59, l_60, l_61, l_62, l_63, l_64, l_65, l_66, l_67, l_68, l_69, l_70, l_71, l_72, l_73, l_74, l_75, l_76, l_77, l_78, l_79, l_80, l_81, l_82, l_83, l_84, l_85, l_86, l_87, l_88, l_89, l_90, l_91, l_92, l_93, l_94, l_95, l_96, l_97, l_98, l_99, l_100, l_101, l_102, l_103, l_104, l_105, l_106, l_107, l_108, l_109, l_110, l_111, l_112, l_113, l_114, l_115, l_116, l_117, l_118, l_119, l_120, l_121, l_122, l_123, l_124, l_125, l_126, l_127, l_128, l_129, l_130, l_256, l_512, l_676, l_704, l_999, l_1000, l_4096, l_17576, l_32768, l_65535, l_456975, l_456976, l_m1, l_m2, in_iff, eq_m1, m1_eq, m1_lt, m1_le, le_m1, lt_m1, eq_m2, m2_m1, m1_m2, add_m1, m1_add, sub_n, mul_n, add_n, bo_n0, bo_n1, ch_n, lt_n, le_n, eq_n, ix_n, i2c_n, rem_n, div_n, kI_i, kI_x, kV_v, kV_x, kR_r, kR_n, kR_x, kHI_i, kHI_0, kHI_1, kHV_v, kHV_0, kHV_1, va_s, va_n, exists_eq_left', exists_eq_left, forall_eq, forall_eq', and_true, true_and, and_self, Option.some.injEq, Prod.mk.injEq, if_tt, if_ff, reduceIte, reduceCtorEq, not_true_eq_false, not_false_eq_true, Nat.reduceAdd, Nat.reduceMul, Nat.reduceSub, Nat.reduceLT, Nat.reduceLeDiff, Nat.reduceEqDiff, false_implies, true_implies, implies_true, hz.1, z_725 hz, s_725 hz, z_726 hz, s_726 hz, c1]
      refine ⟨by omega, ?_⟩
      unfold trI at hk
      by_cases h0 : (msg S.2.1 m).2.2.2 c = 0
      · rw [if_pos (by omega)]; rw [if_pos h0] at hk; exact hk
      · rw [if_neg (by omega)]; rw [if_neg h0] at hk
        by_cases h2 : (msg S.2.1 m).2.2.2 c ≤ 2
        · rw [if_neg (by omega)]; rw [if_pos h2] at hk; exact hk
        · rw [if_pos (by omega), c2 (by omega)]; rw [if_neg h2] at hk; exact ⟨by omega, hk⟩
    · simp only [kI_i]
      rw [if_pos (by decide)]
      exact bad (Or.inr q)
  · simp only [kI_i]
    rw [if_pos (by decide)]
    exact bad (Or.inl q)
theorem c_isCase {x : Int32} (hM : MR σ A S) (hN : S.2.2.1.length ≤ 6) (h1 : ∀ i, 1 ≤ i → i ≤ S.2.2.1.length → x = nI i → K (.inl (some (.int (nI 1)))) σ) (h2 : (x < 1 ∨ ¬ x ≤ nI S.2.2.1.length) → K (.inl (some (.int (nI 0)))) σ) : PW (d + 1) M_Mod_isCase 0 [.ref A, .int x] [] σ K := by
  refine e_Mod_isCase_0 A _ ⟨hM.1.1, ?_⟩
  rw [hM.2.2.2.2.1]
  refine c_isIn (fun q1 q2 => ?_) (fun q => ?_)
  · simp only [kI_i]
    obtain ⟨m, hm1, hm2, em⟩ := rngN (by omega) q1 q2
    exact ⟨Or.inr rfl, h1 m hm1 hm2 em⟩
  · simp only [kI_i]
    exact ⟨Or.inl rfl, h2 q⟩
theorem q_reason {x : Int32} (hM : MR σ A S) (hN : S.2.2.1.length ≤ 6) (hkA : (x < 1 ∨ ¬ x ≤ nI S.2.2.1.length) → Aft σ A S 1 (K (.inl (some (.int (nI 0)))))) (hk : ∀ i, 1 ≤ i → i ≤ S.2.2.1.length → x = nI i → Aft σ A S 0 (K (.inl (some (.int (nI (S.2.2.1.getD (i - 1) (0, [])).1)))))) : PW (d + 2) M_Mod_reason 0 [.ref A, .int x] [] σ K := by
  have hz := hM.1
  refine e_Mod_reason_0 A _ ⟨hz.1, c_isCase hM hN (fun i i1 i2 e => ?_) (fun q => ?_)⟩
  · replace hk := hk i i1 i2 e
    subst e
    simp only [kI_i]
    rw [if_neg (by decide)]
    refine e_Mod_reason_14 A _ _ _ ⟨hz.1, c_refused (n := 0) hz (by omega) ?_⟩
    simp only [kI_i]
    rw [if_pos (by decide)]
    replace hk := hk.at hM
    simp (disch := omega) only [bs_pI, cc_pI, cs_pI, sh_pI, gR_pI, eI_pI, eR_pI, eL_pI, bs_pR, cc_pR, cs_pR, sh_pR, gI_pR, eI_pR, eR_pR, eL_pR, bs_uI, cc_uI, cs_uI, sh_uI, gI_uI, gR_uI, eR_uI, eL_uI, bs_uR, cc_uR, cs_uR, sh_uR, gI_uR, gR_uR, eI_uR, eL_uR, bs_uL, cc_uL, cs_uL, sh_uL, gI_uL, gR_uL, eI_uL, eR_uL, gI_s, gI_d, gR_s, gR_d, eI_s, eI_d, eI_e, eR_s, eR_d, eR_e, eL_s, eL_d, bs_bump, cc_bump, cs_bump, sh_bump, gI_bump, gR_bump, eI_bump, eR_bump, eL_bump, l_0, l_1, l_2, l_3, l_4, l_5, l_6, l_7, l_8, l_9, l_10, l_11, l_12, l_13, l_14, l_15, l_16, l_17, l_18, l_19, l_20, l_21, l_22, l_23, l_24, l_25, l_26, l_27, l_28, l_29, l_30, l_31, l_32, l_33, l_34, l_35, l_36, l_37, l_38, l_39, l_40, l_41, l_42, l_43, l_44, l_45, l_46, l_47, l_48, l_49, l_50, l_51, l_52, l_53, l_54, l_55, l_56, l_57, l_58, l_59, l_60, l_61, l_62, l_63, l_64, l_65, l_66, l_67, l_68, l_69, l_70, l_71, l_72, l_73, l_74, l_75, l_76, l_77, l_78, l_79, l_80, l_81, l_82, l_83, l_84, l_85, l_86, l_87, l_88, l_89, l_90, l_91, l_92, l_93, l_94, l_95, l_96, l_97, l_98, l_99, l_100, l_101, l_102, l_103, l_104, l_105, l_106, l_107, l_108, l_109, l_110, l_111, l_112, l_113, l_114, l_115, l_116, l_117, l_118, l_119, l_120, l_121, l_122, l_123, l_124, l_125, l_126, l_127, l_128, l_129, l_130, l_256, l_512, l_676, l_704, l_999, l_1000, l_4096, l_17576, l_32768, l_65535, l_456975, l_456976, l_m1, l_m2, in_iff, eq_m1, m1_eq, m1_lt, m1_le, le_m1, lt_m1, eq_m2, m2_m1, m1_m2, add_m1, m1_add, sub_n, mul_n, add_n, bo_n0, bo_n1, ch_n, lt_n, le_n, eq_n, ix_n, i2c_n, rem_n, div_n, kI_i, kI_x, kV_v, kV_x, kR_r, kR_n, kR_x, kHI_i, kHI_0, kHI_1, kHV_v, kHV_0, kHV_1, va_s, va_n, exists_eq_left', exists_eq_left, forall_eq, forall_eq', and_true, true_and, and_self, Option.some.injEq, Prod.mk.injEq, if_tt, if_ff, reduceIte, reduceCtorEq, not_true_eq_false, not_false_eq_true, Nat.reduceAdd, Nat.reduceMul, Nat.reduceSub, Nat.reduceLT, Nat.reduceLeDiff, Nat.reduceEqDiff, false_implies, true_implies, implies_true, hz.1, z_728 hz, s_728 hz, (hM.2.2.2.2.2.2 i i1 i2).1]
    exact ⟨by omega, hk⟩
  · simp only [kI_i]
    rw [if_pos (by decide)]
    refine e_Mod_reason_14 A _ _ _ ⟨hz.1, c_refused (n := 1) hz (by omega) ?_⟩
    simp only [kI_i]
    rw [if_neg (by decide)]
    exact (hkA q).at hM
def kP (A i a j : Nat) : Prop := ((a = A + 21 ∨ a = A + 22) ∧ j = i) ∨ (a = A + 23 ∧ j / 64 = i)
theorem MK.upd {σ' : PH} {F : Nat → Prop} {C : List (Nat × List Nat)} {i r : Nat} {xs : List Nat} {P : Nat → Nat → Prop} (h : MK σ A C) (h1 : 1 ≤ i) (h2 : i ≤ C.length) (hf : MF F P A σ σ') (hF : ¬ F 727) (hP : ∀ k j, 21 ≤ k → k ≤ 23 → P (A + k) j → kP A i (A + k) j) (e21 : eI σ' (A + 21) i = nI r) (e22 : eI σ' (A + 22) i = nI xs.length) (hl : xs.length ≤ 60) (e23 : ∀ k, k < xs.length → eI σ' (A + 23) (64 * i + k) = nI (xs.getD k 0)) : MK σ' A (C.set (i - 1) (r, xs)) := by
  obtain ⟨a1, a2, a3⟩ := h
  refine ⟨by rw [hf.gI hF, List.length_set]; exact a1, by rw [List.length_set]; exact a2, fun x x1 x2 => ?_⟩
  rw [List.length_set] at x2
  by_cases hxi : x = i
  · subst hxi
    rw [List.getD_eq_getElem?_getD, List.getElem?_set_self (by omega)]
    exact ⟨e21, e22, hl, e23⟩
  · rw [List.getD_eq_getElem?_getD, List.getElem?_set_ne (by omega), ← List.getD_eq_getElem?_getD]
    obtain ⟨b1, b2, b3, b4⟩ := a3 x x1 x2
    exact ⟨by rw [hf.eI (fun q => by have := hP 21 _ (by omega) (by omega) q; unfold kP at this; omega)]; exact b1, by rw [hf.eI (fun q => by have := hP 22 _ (by omega) (by omega) q; unfold kP at this; omega)]; exact b2, b3, fun k hk => by rw [hf.eI (fun q => by have := hP 23 _ (by omega) (by omega) q; unfold kP at this; omega)]; exact b4 k hk⟩
def kcF (f : Nat) : Prop := scF f
def kcP (A i a j : Nat) : Prop := scP A a j ∨ kP A i a j
theorem kcMR {σ' : PH} {C : List (Nat × List Nat)} {i : Nat} (hM : MR σ A S) (h : MF scF (kcP A i) A σ σ') (ho : MK σ' A C) : MR σ' A (uK S C) := hM.cas (h.mo (fun f q => Or.inl q) (fun a j q => by unfold kcP kP scP at q; unfold scP; omega)) ho
theorem kcFr {σ' : PH} {i : Nat} (h : MF scF (kcP A i) A σ σ') : Fr (gP A) σ σ' := h.fr (fun a j q => by unfold kcP kP scP at q; unfold gP; omega)
theorem q_clerk {x : Int32} {c : Nat} (hM : MR σ A S) (hN : S.2.2.1.length ≤ 6) (hB : Bd S) (hc : c < 65536) (hkA : (x < 1 ∨ ¬ x ≤ nI S.2.2.1.length) ∨ ¬ sg c < 32 → Aft σ A S 1 (K (.inl none))) (hkS : ∀ i, 1 ≤ i → i ≤ S.2.2.1.length → x = nI i → sg c < 32 → ((S.2.2.1.getD (i - 1) (0, [])).1 = 0 ∨ (S.2.2.1.getD (i - 1) (0, [])).2.length = 60) → Aft σ A S 2 (K (.inl none))) (hkO : ∀ i, 1 ≤ i → i ≤ S.2.2.1.length → x = nI i → sg c < 32 → (S.2.2.1.getD (i - 1) (0, [])).1 ≠ 0 → (S.2.2.1.getD (i - 1) (0, [])).2.length < 60 → Aft σ A (uK S (S.2.2.1.set (i - 1) ((S.2.2.1.getD (i - 1) (0, [])).1, (S.2.2.1.getD (i - 1) (0, [])).2 ++ [c]))) 0 (K (.inl none))) : PW (d + 3) M_Mod_clerk 0 [.ref A, .int x, .int (nI c), uu] [] σ K := by
  have hz := hM.1
  have bad : ((x < 1 ∨ ¬ x ≤ nI S.2.2.1.length) ∨ ¬ sg c < 32) → PW (d + 3) M_Mod_clerk 19 [.ref A, .int x, .int (nI c), uu] [] σ K := by
    intro q
    refine e_Mod_clerk_19 A _ _ (e_Mod_clerk_20 A _ _ _ ?_)
    rw [if_pos rfl]
    refine e_Mod_clerk_55 A _ _ _ _ ⟨hz.1, c_refused (n := 1) hz (by omega) ?_⟩
    simp only [kI_i]
    rw [if_neg (by decide)]
    exact (hkA q).at hM
  refine e_Mod_clerk_0 A _ _ ⟨hz.1, c_isCase hM hN (fun i i1 i2 e => ?_) (fun q => ?_)⟩
  · simp only [kI_i]
    rw [if_neg (by decide)]
    refine c_isCharacter (d := d) hc ?_
    simp only [kI_i]
    by_cases hs : sg c < 32
    · rw [decide_eq_true hs, if_neg (by decide)]
      replace hkS := hkS i i1 i2 e hs
      replace hkO := hkO i i1 i2 e hs
      subst e
      clear bad hkA
      have mk := hM.2.2.2.2
      obtain ⟨b1, b2, b3, b4⟩ := mk.2.2 i i1 i2
      obtain ⟨d1, d2, d3⟩ := hB.2.1 (i - 1) (by omega)
      refine e_Mod_clerk_20 A _ _ _ ?_
      rw [if_neg (by decide)]
      refine ⟨hz.1, A + 21, z_728 hz, 7, s_728 hz, in_n (by omega) (by decide), ?_⟩
      rw [ix_n (by omega), b1]
      have two : ((S.2.2.1.getD (i - 1) (0, [])).1 = 0 ∨ (S.2.2.1.getD (i - 1) (0, [])).2.length = 60) → PW (d + 3) M_Mod_clerk 50 [.ref A, .int (nI i), .int (nI c), uu] [.ref A] σ K := by
        intro q
        refine e_Mod_clerk_50 A _ _ _ (e_Mod_clerk_55 A _ _ _ _ ⟨hz.1, c_refused (n := 2) hz (by omega) ?_⟩)
        simp only [kI_i]
        rw [if_neg (by decide)]
        exact (hkS q).at hM
      by_cases h0 : (S.2.2.1.getD (i - 1) (0, [])).1 = 0
      · rw [if_pos (show nI (S.2.2.1.getD (i - 1) (0, [])).1 = 0 by rw [h0]; decide)]
        exact two (Or.inl h0)
      · rw [if_neg (show ¬ nI (S.2.2.1.getD (i - 1) (0, [])).1 = 0 from fun q => h0 ((nI_eq_iff (b := 0) (by omega) (by decide)).mp q))]
        refine ⟨A + 22, z_729 hz, 7, s_729 hz, in_n (by omega) (by decide), ?_⟩
        rw [b2]
        by_cases h60 : (S.2.2.1.getD (i - 1) (0, [])).2.length = 60
        · rw [if_pos (show nI (S.2.2.1.getD (i - 1) (0, [])).2.length = 60 by rw [h60]; decide)]
          exact two (Or.inr h60)
        · rw [if_neg (show ¬ nI (S.2.2.1.getD (i - 1) (0, [])).2.length = 60 from fun q => h60 ((nI_eq_iff (b := 60) (by omega) (by decide)).mp q))]
          replace hkO := hkO h0 (by omega)
          refine e_Mod_clerk_55 A _ _ _ _ ⟨hz.1, c_refused (n := 0) hz (by omega) ?_⟩
          simp only [kI_i]
          rw [if_pos (by decide)]
          generalize hxs : (S.2.2.1.getD (i - 1) (0, [])).2 = xs at *
          generalize hr : (S.2.2.1.getD (i - 1) (0, [])).1 = r at *
          simp (disch := omega) only [bs_pI, cc_pI, cs_pI, sh_pI, gR_pI, eI_pI, eR_pI, eL_pI, bs_pR, cc_pR, cs_pR, sh_pR, gI_pR, eI_pR, eR_pR, eL_pR, bs_uI, cc_uI, cs_uI, sh_uI, gI_uI, gR_uI, eR_uI, eL_uI, bs_uR, cc_uR, cs_uR, sh_uR, gI_uR, gR_uR, eI_uR, eL_uR, bs_uL, cc_uL, cs_uL, sh_uL, gI_uL, gR_uL, eI_uL, eR_uL, gI_s, gI_d, gR_s, gR_d, eI_s, eI_d, eI_e, eR_s, eR_d, eR_e, eL_s, eL_d, bs_bump, cc_bump, cs_bump, sh_bump, gI_bump, gR_bump, eI_bump, eR_bump, eL_bump, l_0, l_1, l_2, l_3, l_4, l_5, l_6, l_7, l_8, l_9, l_10, l_11, l_12, l_13, l_14, l_15, l_16, l_17, l_18, l_19, l_20, l_21, l_22, l_23, l_24, l_25, l_26, l_27, l_28, l_29, l_30, l_31, l_32, l_33, l_34, l_35, l_36, l_37, l_38, l_39, l_40, l_41, l_42, l_43, l_44, l_45, l_46, l_47, l_48, l_49, l_50, l_51, l_52, l_53, l_54, l_55, l_56, l_57, l_58, l_59, l_60, l_61, l_62, l_63, l_64, l_65, l_66, l_67, l_68, l_69, l_70, l_71, l_72, l_73, l_74, l_75, l_76, l_77, l_78, l_79, l_80, l_81, l_82, l_83, l_84, l_85, l_86, l_87, l_88, l_89, l_90, l_91, l_92, l_93, l_94, l_95, l_96, l_97, l_98, l_99, l_100, l_101, l_102, l_103, l_104, l_105, l_106, l_107, l_108, l_109, l_110, l_111, l_112, l_113, l_114, l_115, l_116, l_117, l_118, l_119, l_120, l_121, l_122, l_123, l_124, l_125, l_126, l_127, l_128, l_129, l_130, l_256, l_512, l_676, l_704, l_999, l_1000, l_4096, l_17576, l_32768, l_65535, l_456975, l_456976, l_m1, l_m2, in_iff, eq_m1, m1_eq, m1_lt, m1_le, le_m1, lt_m1, eq_m2, m2_m1, m1_m2, add_m1, m1_add, sub_n, mul_n, add_n, bo_n0, bo_n1, ch_n, lt_n, le_n, eq_n, ix_n, i2c_n, rem_n, div_n, kI_i, kI_x, kV_v, kV_x, kR_r, kR_n, kR_x, kHI_i, kHI_0, kHI_1, kHV_v, kHV_0, kHV_1, va_s, va_n, exists_eq_left', exists_eq_left, forall_eq, forall_eq', and_true, true_and, and_self, Option.some.injEq, Prod.mk.injEq, if_tt, if_ff, reduceIte, reduceCtorEq, not_true_eq_false, not_false_eq_true, Nat.reduceAdd, Nat.reduceMul, Nat.reduceSub, Nat.reduceLT, Nat.reduceLeDiff, Nat.reduceEqDiff, false_implies, true_implies, implies_true, hz.1, z_729 hz, s_729 hz, z_730 hz, s_730 hz, b2]
          refine ⟨by omega, by omega, by omega, by omega, ?_⟩
          have f1 : MF scF (kcP A i) A σ (uI (uI (pI σ 704 A (nI 0)) (A + 23) (64 * i + xs.length) (nI c)) (A + 22) i (nI (xs.length + 1))) := ((MF.pI (Or.inl rfl)).tr (MF.uI (by unfold kcP kP; omega))).tr (MF.uI (by unfold kcP kP; omega))
          refine hkO _ (kcMR hM f1 (mk.upd i1 i2 f1 (by unfold scF; omega) (fun k j k1 k2 q => by unfold kcP scP at q; rcases q with q | q; omega; exact q) ?_ ?_ ?_ (fun k hk => ?_))) (by simp (disch := omega) only [bs_pI, cc_pI, cs_pI, sh_pI, gR_pI, eI_pI, eR_pI, eL_pI, bs_pR, cc_pR, cs_pR, sh_pR, gI_pR, eI_pR, eR_pR, eL_pR, bs_uI, cc_uI, cs_uI, sh_uI, gI_uI, gR_uI, eR_uI, eL_uI, bs_uR, cc_uR, cs_uR, sh_uR, gI_uR, gR_uR, eI_uR, eL_uR, bs_uL, cc_uL, cs_uL, sh_uL, gI_uL, gR_uL, eI_uL, eR_uL, gI_s, gI_d, gR_s, gR_d, eI_s, eI_d, eI_e, eR_s, eR_d, eR_e, eL_s, eL_d, bs_bump, cc_bump, cs_bump, sh_bump, gI_bump, gR_bump, eI_bump, eR_bump, eL_bump]) (kcFr f1)
          · simp (disch := omega) only [bs_pI, cc_pI, cs_pI, sh_pI, gR_pI, eI_pI, eR_pI, eL_pI, bs_pR, cc_pR, cs_pR, sh_pR, gI_pR, eI_pR, eR_pR, eL_pR, bs_uI, cc_uI, cs_uI, sh_uI, gI_uI, gR_uI, eR_uI, eL_uI, bs_uR, cc_uR, cs_uR, sh_uR, gI_uR, gR_uR, eI_uR, eL_uR, bs_uL, cc_uL, cs_uL, sh_uL, gI_uL, gR_uL, eI_uL, eR_uL, gI_s, gI_d, gR_s, gR_d, eI_s, eI_d, eI_e, eR_s, eR_d, eR_e, eL_s, eL_d, bs_bump, cc_bump, cs_bump, sh_bump, gI_bump, gR_bump, eI_bump, eR_bump, eL_bump]; exact b1
          · simp (disch := omega) only [bs_pI, cc_pI, cs_pI, sh_pI, gR_pI, eI_pI, eR_pI, eL_pI, bs_pR, cc_pR, cs_pR, sh_pR, gI_pR, eI_pR, eR_pR, eL_pR, bs_uI, cc_uI, cs_uI, sh_uI, gI_uI, gR_uI, eR_uI, eL_uI, bs_uR, cc_uR, cs_uR, sh_uR, gI_uR, gR_uR, eI_uR, eL_uR, bs_uL, cc_uL, cs_uL, sh_uL, gI_uL, gR_uL, eI_uL, eR_uL, gI_s, gI_d, gR_s, gR_d, eI_s, eI_d, eI_e, eR_s, eR_d, eR_e, eL_s, eL_d, bs_bump, cc_bump, cs_bump, sh_bump, gI_bump, gR_bump, eI_bump, eR_bump, eL_bump]; rw [List.length_append, List.length_singleton]
          · rw [List.length_append, List.length_singleton]; omega
          · rw [List.length_append, List.length_singleton] at hk
            rw [getD_snoc]
            by_cases hkl : k < xs.length
            · rw [if_pos hkl]; simp (disch := omega) only [bs_pI, cc_pI, cs_pI, sh_pI, gR_pI, eI_pI, eR_pI, eL_pI, bs_pR, cc_pR, cs_pR, sh_pR, gI_pR, eI_pR, eR_pR, eL_pR, bs_uI, cc_uI, cs_uI, sh_uI, gI_uI, gR_uI, eR_uI, eL_uI, bs_uR, cc_uR, cs_uR, sh_uR, gI_uR, gR_uR, eI_uR, eL_uR, bs_uL, cc_uL, cs_uL, sh_uL, gI_uL, gR_uL, eI_uL, eR_uL, gI_s, gI_d, gR_s, gR_d, eI_s, eI_d, eI_e, eR_s, eR_d, eR_e, eL_s, eL_d, bs_bump, cc_bump, cs_bump, sh_bump, gI_bump, gR_bump, eI_bump, eR_bump, eL_bump]; exact b4 k hkl
            · have hke : k = xs.length := by omega
              subst hke
              rw [if_neg hkl, if_pos rfl]; simp (disch := omega) only [bs_pI, cc_pI, cs_pI, sh_pI, gR_pI, eI_pI, eR_pI, eL_pI, bs_pR, cc_pR, cs_pR, sh_pR, gI_pR, eI_pR, eR_pR, eL_pR, bs_uI, cc_uI, cs_uI, sh_uI, gI_uI, gR_uI, eR_uI, eL_uI, bs_uR, cc_uR, cs_uR, sh_uR, gI_uR, gR_uR, eI_uR, eL_uR, bs_uL, cc_uL, cs_uL, sh_uL, gI_uL, gR_uL, eI_uL, eR_uL, gI_s, gI_d, gR_s, gR_d, eI_s, eI_d, eI_e, eR_s, eR_d, eR_e, eL_s, eL_d, bs_bump, cc_bump, cs_bump, sh_bump, gI_bump, gR_bump, eI_bump, eR_bump, eL_bump]
    · rw [decide_eq_false hs, if_pos (by decide)]
      exact bad (Or.inr hs)
  · simp only [kI_i]
    rw [if_pos (by decide)]
    exact bad (Or.inl q)
theorem q_count {x : Int32} (hM : MR σ A S) (hB : Bd S) (hk : Aft σ A S 0 (K (.inl (some (.int (ctI S x)))))) : PW d M_Mod_count 0 [.ref A, .int x, uu, uu] [] σ K := by
  have hz := hM.1
  have mk := hM.2.2.2.2
  have m1' := hM.2.2.2.1.1
  have k2 := mk.2.1
  replace hk := hk.at hM
  refine e_Mod_count_0 A _ ⟨hz.1, fun σ1 e1 => ?_⟩
  have e1' : σ1 = pI σ 704 A (nI 0) := e1
  subst e1'
  have loop : ∀ (n i : Nat), i + n = S.2.2.1.length + 1 → 1 ≤ i → PW d M_Mod_count 9 [.ref A, .int x, .int (nI (ncF S.2.2.1 (i - 1))), .int (nI i)] [] (pI σ 704 A (nI 0)) K := by
    intro n
    induction n with
    | zero =>
      intro i hin h1
      refine e_Mod_count_9 A _ _ _ ?_
      have g27 : gI (pI σ 704 A (nI 0)) 727 A = nI S.2.2.1.length := by simp (disch := omega) only [bs_pI, cc_pI, cs_pI, sh_pI, gR_pI, eI_pI, eR_pI, eL_pI, bs_pR, cc_pR, cs_pR, sh_pR, gI_pR, eI_pR, eR_pR, eL_pR, bs_uI, cc_uI, cs_uI, sh_uI, gI_uI, gR_uI, eR_uI, eL_uI, bs_uR, cc_uR, cs_uR, sh_uR, gI_uR, gR_uR, eI_uR, eL_uR, bs_uL, cc_uL, cs_uL, sh_uL, gI_uL, gR_uL, eI_uL, eR_uL, gI_s, gI_d, gR_s, gR_d, eI_s, eI_d, eI_e, eR_s, eR_d, eR_e, eL_s, eL_d, bs_bump, cc_bump, cs_bump, sh_bump, gI_bump, gR_bump, eI_bump, eR_bump, eL_bump]; exact mk.1
      have g19 : gI (pI σ 704 A (nI 0)) 719 A = nI S.2.1.length := by simp (disch := omega) only [bs_pI, cc_pI, cs_pI, sh_pI, gR_pI, eI_pI, eR_pI, eL_pI, bs_pR, cc_pR, cs_pR, sh_pR, gI_pR, eI_pR, eR_pR, eL_pR, bs_uI, cc_uI, cs_uI, sh_uI, gI_uI, gR_uI, eR_uI, eL_uI, bs_uR, cc_uR, cs_uR, sh_uR, gI_uR, gR_uR, eI_uR, eL_uR, bs_uL, cc_uL, cs_uL, sh_uL, gI_uL, gR_uL, eI_uL, eR_uL, gI_s, gI_d, gR_s, gR_d, eI_s, eI_d, eI_e, eR_s, eR_d, eR_e, eL_s, eL_d, bs_bump, cc_bump, cs_bump, sh_bump, gI_bump, gR_bump, eI_bump, eR_bump, eL_bump]; exact m1'
      refine ⟨hz.1, ?_⟩
      rw [g27, g19, if_pos ((nI_lt_iff (by omega) (by omega)).mpr (by omega)), show i - 1 = S.2.2.1.length by omega]
      unfold ctI at hk
      by_cases h0 : x = 0
      · rw [if_pos h0] at hk ⊢; exact hk
      · rw [if_neg h0] at hk ⊢
        by_cases h1 : x = 1
        · rw [if_pos h1] at hk ⊢; exact hk
        · rw [if_neg h1] at hk ⊢
          by_cases h2 : x = 2
          · rw [if_pos h2] at hk ⊢; exact hk
          · rw [if_neg h2] at hk ⊢; exact hk
    | succ n ih =>
      intro i hin h1
      have hnc : ncF S.2.2.1 i = if (S.2.2.1.getD (i - 1) (0, [])).1 = 0 then ncF S.2.2.1 (i - 1) else ncF S.2.2.1 (i - 1) + 1 := by
        obtain ⟨i', rfl⟩ : ∃ i', i = i' + 1 := ⟨i - 1, by omega⟩
        rw [ncF]; rfl
      have nx : PW d M_Mod_count 33 [.ref A, .int x, uu, .int (nI i)] [.int (nI (ncF S.2.2.1 i))] (pI σ 704 A (nI 0)) K := by
        refine e_Mod_count_33 A _ _ _ ?_
        rw [nI_1]
        have := ih (i + 1) (by omega) (by omega)
        rw [show i + 1 - 1 = i by omega] at this
        exact this
      have hb1 := (hB.2.1 (i - 1) (by omega)).1
      refine e_Mod_count_9 A _ _ _ ?_
      simp (disch := omega) only [bs_pI, cc_pI, cs_pI, sh_pI, gR_pI, eI_pI, eR_pI, eL_pI, bs_pR, cc_pR, cs_pR, sh_pR, gI_pR, eI_pR, eR_pR, eL_pR, bs_uI, cc_uI, cs_uI, sh_uI, gI_uI, gR_uI, eR_uI, eL_uI, bs_uR, cc_uR, cs_uR, sh_uR, gI_uR, gR_uR, eI_uR, eL_uR, bs_uL, cc_uL, cs_uL, sh_uL, gI_uL, gR_uL, eI_uL, eR_uL, gI_s, gI_d, gR_s, gR_d, eI_s, eI_d, eI_e, eR_s, eR_d, eR_e, eL_s, eL_d, bs_bump, cc_bump, cs_bump, sh_bump, gI_bump, gR_bump, eI_bump, eR_bump, eL_bump, hz.1, mk.1, z_728 hz, s_728 hz, (mk.2.2 i h1 (by omega)).1, true_and, ix_n, lt_n]
      rw [if_neg (by omega)]
      refine ⟨A + 21, rfl, 7, s_728 hz, in_n (by omega) (by decide), ?_⟩
      rw [(mk.2.2 i h1 (by omega)).1]
      by_cases h0 : (S.2.2.1.getD (i - 1) (0, [])).1 = 0
      · rw [if_pos (show nI (S.2.2.1.getD (i - 1) (0, [])).1 ≤ 0 by rw [h0]; decide)]
        rw [if_pos h0] at hnc
        rw [hnc] at nx
        exact nx
      · rw [if_neg (show ¬ nI (S.2.2.1.getD (i - 1) (0, [])).1 ≤ 0 from fun q => h0 (by have := (nI_le_iff (b := 0) (by omega) (by decide)).mp q; omega))]
        rw [if_neg h0] at hnc
        rw [hnc, ← nI_1] at nx
        exact nx
  exact loop S.2.2.1.length 1 (by omega) (by omega)
end ModF
