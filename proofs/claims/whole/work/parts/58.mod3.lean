/-! ===== the reference: numbers, precedence, indicators of a text ===== -/
/-- every word lies in the line -/
theorem wd_in {xs : List Nat} {e : Nat} : ∀ (m p : Nat), p ≤ e → e ≤ p + m → ∀ q ∈ wd xs e p, q.1 < q.2 ∧ q.2 ≤ e := by
  intro m
  induction m with
  | zero =>
    intro p h1 h2 q hq
    rw [wd_none h1 (by rw [sB_end (by omega)]; omega)] at hq
    cases hq
  | succ m ih =>
    intro p h1 h2 q hq
    by_cases hb : sB xs e p < e
    · have f1 := @sB_facts xs e p h1
      have f2 := (@word_iff xs e p h1).mpr hb
      have f3 := @sW_facts xs e (sB xs e p) f1.2.1
      rw [wd_some h1 hb] at hq
      rcases List.mem_cons.mp hq with q1 | q1
      · rw [q1]; exact ⟨f2, f3.2.1⟩
      · exact ih _ f3.2.1 (by omega) q q1
    · rw [wd_none h1 hb] at hq; cases hq
theorem hW_in {xs : List Nat} {i : Nat} (hi : i < (hW xs).length) : ((hW xs).getD i (0, 0)).1 < ((hW xs).getD i (0, 0)).2 ∧ ((hW xs).getD i (0, 0)).2 ≤ xs.length := by
  have hle := (fle_spec xs).1
  rw [List.getD_eq_getElem?_getD, List.getElem?_eq_getElem hi]
  have := wd_in (fle xs) 0 (by omega) (by omega) (hW xs)[i] (List.getElem_mem hi)
  exact ⟨this.1, by have := this.2; show (hW xs)[i].2 ≤ _; omega⟩
section Mod3
variable {d : Nat} {σ : PH} {K : PO → PH → Prop} {A : Nat} {S : SP} {xs : List Nat} {W : List (Nat × Nat)}
/-- words that lie in the text -/
def Win (xs : List Nat) (W : List (Nat × Nat)) : Prop := ∀ i, i < W.length → (W.getD i (0, 0)).1 < (W.getD i (0, 0)).2 ∧ (W.getD i (0, 0)).2 ≤ xs.length
theorem number_step {k v : Nat} (hz : MZ σ A) (hx : TM σ A xs) (hw : WM σ A W) (hin : Win xs W) (h0 : 0 < W.length) (h3 : (W.getD 0 (0, 0)).2 = (W.getD 0 (0, 0)).1 + 3) (hk3 : k < 3) (hv : v < 1000) (no : isD (xs.getD ((W.getD 0 (0, 0)).1 + k) 0) = false → K (.inl (some (.int (nI 0)))) σ) (yes : isD (xs.getD ((W.getD 0 (0, 0)).1 + k) 0) = true → PW (d + 1) M_Mod_numberWord 23 [.ref A, .int (nI (10 * v + (xs.getD ((W.getD 0 (0, 0)).1 + k) 0 - 48))), .int (nI (k + 1))] [] σ K) : PW (d + 1) M_Mod_numberWord 23 [.ref A, .int (nI v), .int (nI k)] [] σ K := by
  have hin := hin 0 h0
  have hlt := getD_lt hx.2.2.2 ((W.getD 0 (0, 0)).1 + k)
  refine e_Mod_numberWord_23 A _ _ ?_
  simp (disch := omega) only [bs_pI, cc_pI, cs_pI, sh_pI, gR_pI, eI_pI, eR_pI, eL_pI, bs_pR, cc_pR, cs_pR, sh_pR, gI_pR, eI_pR, eR_pR, eL_pR, bs_uI, cc_uI, cs_uI, sh_uI, gI_uI, gR_uI, eR_uI, eL_uI, bs_uR, cc_uR, cs_uR, sh_uR, gI_uR, gR_uR, eI_uR, eL_uR, bs_uL, cc_uL, cs_uL, sh_uL, gI_uL, gR_uL, eI_uL, eR_uL, gI_s, gI_d, gR_s, gR_d, eI_s, eI_d, eI_e, eR_s, eR_d, eR_e, eL_s, eL_d, bs_bump, cc_bump, cs_bump, sh_bump, gI_bump, gR_bump, eI_bump, eR_bump, eL_bump, l_0, l_1, l_2, l_3, l_4, l_5, l_6, l_7, l_8, l_9, l_10, l_11, l_12, l_13, l_14, l_15, l_16, l_17, l_18, l_19, l_20, l_21, l_22, l_23, l_24, l_25, l_26, l_27, l_28, l_29, l_30, l_31, l_32, l_33, l_34, l_35, l_36, l_37, l_38, l_39, l_40, l_41, l_42, l_43, l_44, l_45, l_46, l_47, l_48, l_49, l_50, l_51, l_52, l_53, l_54, l_55, l_56, l_57, l_58, l_59, l_60, l_61, l_62, l_63, l_64, l_65, l_66, l_67, l_68, l_69, l_70, l_71, l_72, l_73, l_74, l_75, l_76, l_77, l_78, l_79, l_80, l_81, l_82, l_83, l_84, l_85, l_86, l_87, l_88, l_89, l_90, l_91, l_92, l_93, l_94, l_95, l_96, l_97, l_98, l_99, l_100, l_101, l_102, l_103, l_104, l_105, l_106, l_107, l_108, l_109, l_110, l_111, l_112, l_113, l_114, l_115, l_116, l_117, l_118, l_119, l_120, l_121, l_122, l_123, l_124, l_125, l_126, l_127, l_128, l_129, l_130, l_256, l_512, l_676, l_704, l_999, l_1000, l_4096, l_17576, l_32768, l_65535, l_456975, l_456976, l_m1, l_m2, in_iff, eq_m1, m1_eq, m1_lt, m1_le, le_m1, lt_m1, eq_m2, m2_m1, m1_m2, add_m1, m1_add, sub_n, mul_n, add_n, bo_n0, bo_n1, ch_n, lt_n, le_n, eq_n, ix_n, i2c_n, rem_n, div_n, kI_i, kI_x, kV_v, kV_x, kR_r, kR_n, kR_x, kHI_i, kHI_0, kHI_1, kHV_v, kHV_0, kHV_1, va_s, va_n, exists_eq_left', exists_eq_left, forall_eq, forall_eq', and_true, true_and, and_self, Option.some.injEq, Prod.mk.injEq, if_tt, if_ff, reduceIte, reduceCtorEq, not_true_eq_false, not_false_eq_true, Nat.reduceAdd, Nat.reduceMul, Nat.reduceSub, Nat.reduceLT, Nat.reduceLeDiff, Nat.reduceEqDiff, false_implies, true_implies, implies_true, hz.1]
  rw [if_neg (by omega)]
  refine c_letter hz hx hw h0 (by omega) ?_
  simp only [kI_i]
  refine c_modDigit (by omega) ?_
  simp only [kI_i]
  cases hD : isD (xs.getD ((W.getD 0 (0, 0)).1 + k) 0) with
  | false => rw [if_pos (by decide)]; exact no hD
  | true =>
    have hD2 := isD_iff.mp hD
    rw [if_neg (by decide)]
    refine ⟨hz.1, c_letter hz hx hw h0 (by omega) ?_⟩
    simp (disch := omega) only [bs_pI, cc_pI, cs_pI, sh_pI, gR_pI, eI_pI, eR_pI, eL_pI, bs_pR, cc_pR, cs_pR, sh_pR, gI_pR, eI_pR, eR_pR, eL_pR, bs_uI, cc_uI, cs_uI, sh_uI, gI_uI, gR_uI, eR_uI, eL_uI, bs_uR, cc_uR, cs_uR, sh_uR, gI_uR, gR_uR, eI_uR, eL_uR, bs_uL, cc_uL, cs_uL, sh_uL, gI_uL, gR_uL, eI_uL, eR_uL, gI_s, gI_d, gR_s, gR_d, eI_s, eI_d, eI_e, eR_s, eR_d, eR_e, eL_s, eL_d, bs_bump, cc_bump, cs_bump, sh_bump, gI_bump, gR_bump, eI_bump, eR_bump, eL_bump, l_0, l_1, l_2, l_3, l_4, l_5, l_6, l_7, l_8, l_9, l_10, l_11, l_12, l_13, l_14, l_15, l_16, l_17, l_18, l_19, l_20, l_21, l_22, l_23, l_24, l_25, l_26, l_27, l_28, l_29, l_30, l_31, l_32, l_33, l_34, l_35, l_36, l_37, l_38, l_39, l_40, l_41, l_42, l_43, l_44, l_45, l_46, l_47, l_48, l_49, l_50, l_51, l_52, l_53, l_54, l_55, l_56, l_57, l_58, l_59, l_60, l_61, l_62, l_63, l_64, l_65, l_66, l_67, l_68, l_69, l_70, l_71, l_72, l_73, l_74, l_75, l_76, l_77, l_78, l_79, l_80, l_81, l_82, l_83, l_84, l_85, l_86, l_87, l_88, l_89, l_90, l_91, l_92, l_93, l_94, l_95, l_96, l_97, l_98, l_99, l_100, l_101, l_102, l_103, l_104, l_105, l_106, l_107, l_108, l_109, l_110, l_111, l_112, l_113, l_114, l_115, l_116, l_117, l_118, l_119, l_120, l_121, l_122, l_123, l_124, l_125, l_126, l_127, l_128, l_129, l_130, l_256, l_512, l_676, l_704, l_999, l_1000, l_4096, l_17576, l_32768, l_65535, l_456975, l_456976, l_m1, l_m2, in_iff, eq_m1, m1_eq, m1_lt, m1_le, le_m1, lt_m1, eq_m2, m2_m1, m1_m2, add_m1, m1_add, sub_n, mul_n, add_n, bo_n0, bo_n1, ch_n, lt_n, le_n, eq_n, ix_n, i2c_n, rem_n, div_n, kI_i, kI_x, kV_v, kV_x, kR_r, kR_n, kR_x, kHI_i, kHI_0, kHI_1, kHV_v, kHV_0, kHV_1, va_s, va_n, exists_eq_left', exists_eq_left, forall_eq, forall_eq', and_true, true_and, and_self, Option.some.injEq, Prod.mk.injEq, if_tt, if_ff, reduceIte, reduceCtorEq, not_true_eq_false, not_false_eq_true, Nat.reduceAdd, Nat.reduceMul, Nat.reduceSub, Nat.reduceLT, Nat.reduceLeDiff, Nat.reduceEqDiff, false_implies, true_implies, implies_true]
    have := yes hD
    rw [show 10 * v + (xs.getD ((W.getD 0 (0, 0)).1 + k) 0 - 48) = 10 * v + xs.getD ((W.getD 0 (0, 0)).1 + k) 0 - 48 by omega] at this
    exact this
theorem numW_get : numW xs W = if 0 < W.length then numP xs (W.getD 0 (0, 0)) else 0 := by
  cases W with
  | nil => rfl
  | cons p r => rw [if_pos (by simp)]; rfl
theorem c_numberWord (hz : MZ σ A) (hx : TM σ A xs) (hw : WM σ A W) (hin : Win xs W) (hk : K (.inl (some (.int (nI (numW xs W))))) σ) : PW (d + 1) M_Mod_numberWord 0 [.ref A, uu, uu] [] σ K := by
  have hx2 := hx.2.1
  rw [numW_get] at hk
  refine e_Mod_numberWord_0 A ?_
  have w2 := hw.2.1
  simp (disch := omega) only [bs_pI, cc_pI, cs_pI, sh_pI, gR_pI, eI_pI, eR_pI, eL_pI, bs_pR, cc_pR, cs_pR, sh_pR, gI_pR, eI_pR, eR_pR, eL_pR, bs_uI, cc_uI, cs_uI, sh_uI, gI_uI, gR_uI, eR_uI, eL_uI, bs_uR, cc_uR, cs_uR, sh_uR, gI_uR, gR_uR, eI_uR, eL_uR, bs_uL, cc_uL, cs_uL, sh_uL, gI_uL, gR_uL, eI_uL, eR_uL, gI_s, gI_d, gR_s, gR_d, eI_s, eI_d, eI_e, eR_s, eR_d, eR_e, eL_s, eL_d, bs_bump, cc_bump, cs_bump, sh_bump, gI_bump, gR_bump, eI_bump, eR_bump, eL_bump, l_0, l_1, l_2, l_3, l_4, l_5, l_6, l_7, l_8, l_9, l_10, l_11, l_12, l_13, l_14, l_15, l_16, l_17, l_18, l_19, l_20, l_21, l_22, l_23, l_24, l_25, l_26, l_27, l_28, l_29, l_30, l_31, l_32, l_33, l_34, l_35, l_36, l_37, l_38, l_39, l_40, l_41, l_42, l_43, l_44, l_45, l_46, l_47, l_48, l_49, l_50, l_51, l_52, l_53, l_54, l_55, l_56, l_57, l_58, l_59, l_60, l_61, l_62, l_63, l_64, l_65, l_66, l_67, l_68, l_69, l_70, l_71, l_72, l_73, l_74, l_75, l_76, l_77, l_78, l_79, l_80, l_81, l_82, l_83, l_84, l_85, l_86, l_87, l_88, l_89, l_90, l_91, l_92, l_93, l_94, l_95, l_96, l_97, l_98, l_99, l_100, l_101, l_102, l_103, l_104, l_105, l_106, l_107, l_108, l_109, l_110, l_111, l_112, l_113, l_114, l_115, l_116, l_117, l_118, l_119, l_120, l_121, l_122, l_123, l_124, l_125, l_126, l_127, l_128, l_129, l_130, l_256, l_512, l_676, l_704, l_999, l_1000, l_4096, l_17576, l_32768, l_65535, l_456975, l_456976, l_m1, l_m2, in_iff, eq_m1, m1_eq, m1_lt, m1_le, le_m1, lt_m1, eq_m2, m2_m1, m1_m2, add_m1, m1_add, sub_n, mul_n, add_n, bo_n0, bo_n1, ch_n, lt_n, le_n, eq_n, ix_n, i2c_n, rem_n, div_n, kI_i, kI_x, kV_v, kV_x, kR_r, kR_n, kR_x, kHI_i, kHI_0, kHI_1, kHV_v, kHV_0, kHV_1, va_s, va_n, exists_eq_left', exists_eq_left, forall_eq, forall_eq', and_true, true_and, and_self, Option.some.injEq, Prod.mk.injEq, if_tt, if_ff, reduceIte, reduceCtorEq, not_true_eq_false, not_false_eq_true, Nat.reduceAdd, Nat.reduceMul, Nat.reduceSub, Nat.reduceLT, Nat.reduceLeDiff, Nat.reduceEqDiff, false_implies, true_implies, implies_true, hz.1, z_747 hz, s_747 hz, hw.1]
  by_cases h0 : 0 < W.length
  · rw [if_pos h0] at hk
    rw [if_neg (by omega), (hw.2.2 0 h0).2]
    have hi := hin 0 h0
    simp (disch := omega) only [bs_pI, cc_pI, cs_pI, sh_pI, gR_pI, eI_pI, eR_pI, eL_pI, bs_pR, cc_pR, cs_pR, sh_pR, gI_pR, eI_pR, eR_pR, eL_pR, bs_uI, cc_uI, cs_uI, sh_uI, gI_uI, gR_uI, eR_uI, eL_uI, bs_uR, cc_uR, cs_uR, sh_uR, gI_uR, gR_uR, eI_uR, eL_uR, bs_uL, cc_uL, cs_uL, sh_uL, gI_uL, gR_uL, eI_uL, eR_uL, gI_s, gI_d, gR_s, gR_d, eI_s, eI_d, eI_e, eR_s, eR_d, eR_e, eL_s, eL_d, bs_bump, cc_bump, cs_bump, sh_bump, gI_bump, gR_bump, eI_bump, eR_bump, eL_bump, l_0, l_1, l_2, l_3, l_4, l_5, l_6, l_7, l_8, l_9, l_10, l_11, l_12, l_13, l_14, l_15, l_16, l_17, l_18, l_19, l_20, l_21, l_22, l_23, l_24, l_25, l_26, l_27, l_28, l_29, l_30, l_31, l_32, l_33, l_34, l_35, l_36, l_37, l_38, l_39, l_40, l_41, l_42, l_43, l_44, l_45, l_46, l_47, l_48, l_49, l_50, l_51, l_52, l_53, l_54, l_55, l_56, l_57, l_58, l_59, l_60, l_61, l_62, l_63, l_64, l_65, l_66, l_67, l_68, l_69, l_70, l_71, l_72, l_73, l_74, l_75, l_76, l_77, l_78, l_79, l_80, l_81, l_82, l_83, l_84, l_85, l_86, l_87, l_88, l_89, l_90, l_91, l_92, l_93, l_94, l_95, l_96, l_97, l_98, l_99, l_100, l_101, l_102, l_103, l_104, l_105, l_106, l_107, l_108, l_109, l_110, l_111, l_112, l_113, l_114, l_115, l_116, l_117, l_118, l_119, l_120, l_121, l_122, l_123, l_124, l_125, l_126, l_127, l_128, l_129, l_130, l_256, l_512, l_676, l_704, l_999, l_1000, l_4096, l_17576, l_32768, l_65535, l_456975, l_456976, l_m1, l_m2, in_iff, eq_m1, m1_eq, m1_lt, m1_le, le_m1, lt_m1, eq_m2, m2_m1, m1_m2, add_m1, m1_add, sub_n, mul_n, add_n, bo_n0, bo_n1, ch_n, lt_n, le_n, eq_n, ix_n, i2c_n, rem_n, div_n, kI_i, kI_x, kV_v, kV_x, kR_r, kR_n, kR_x, kHI_i, kHI_0, kHI_1, kHV_v, kHV_0, kHV_1, va_s, va_n, exists_eq_left', exists_eq_left, forall_eq, forall_eq', and_true, true_and, and_self, Option.some.injEq, Prod.mk.injEq, if_tt, if_ff, reduceIte, reduceCtorEq, not_true_eq_false, not_false_eq_true, Nat.reduceAdd, Nat.reduceMul, Nat.reduceSub, Nat.reduceLT, Nat.reduceLeDiff, Nat.reduceEqDiff, false_implies, true_implies, implies_true]
    unfold numP at hk
    by_cases h3 : (W.getD 0 (0, 0)).2 - (W.getD 0 (0, 0)).1 = 3
    · rw [if_pos h3]
      have h3' : (W.getD 0 (0, 0)).2 = (W.getD 0 (0, 0)).1 + 3 := by omega
      have nope : ¬ (isD (xs.getD (W.getD 0 (0, 0)).1 0) = true ∧ isD (xs.getD ((W.getD 0 (0, 0)).1 + 1) 0) = true ∧ isD (xs.getD ((W.getD 0 (0, 0)).1 + 2) 0) = true) → K (.inl (some (.int (nI 0)))) σ := by
        intro hn
        rw [if_neg (fun q => hn q.2)] at hk
        exact hk
      refine number_step (k := 0) (v := 0) hz hx hw hin h0 h3' (by omega) (by omega) (fun q => nope (fun z => by rw [Nat.add_zero] at q; rw [q] at z; exact absurd z.1 (by decide))) (fun q1 => ?_)
      rw [Nat.add_zero] at q1
      simp only [Nat.add_zero, Nat.mul_zero, Nat.zero_add]
      have j1 := isD_iff.mp q1
      refine number_step (k := 1) hz hx hw hin h0 h3' (by omega) (by omega) (fun q => nope (fun z => by rw [q] at z; exact absurd z.2.1 (by decide))) (fun q2 => ?_)
      have j2 := isD_iff.mp q2
      refine number_step (k := 2) hz hx hw hin h0 h3' (by omega) (by omega) (fun q => nope (fun z => by rw [q] at z; exact absurd z.2.2 (by decide))) (fun q3 => ?_)
      have j3 := isD_iff.mp q3
      refine e_Mod_numberWord_23 A _ _ ?_
      rw [if_pos (by decide)]
      rw [if_pos ⟨h3', q1, q2, q3⟩] at hk
      unfold v3 at hk
      rw [show 10 * (10 * (xs.getD (W.getD 0 (0, 0)).1 0 - 48) + (xs.getD ((W.getD 0 (0, 0)).1 + 1) 0 - 48)) + (xs.getD ((W.getD 0 (0, 0)).1 + 2) 0 - 48) = ((xs.getD (W.getD 0 (0, 0)).1 0 - 48) * 10 + (xs.getD ((W.getD 0 (0, 0)).1 + 1) 0 - 48)) * 10 + (xs.getD ((W.getD 0 (0, 0)).1 + 2) 0 - 48) by omega]
      exact hk
    · rw [if_neg h3]
      rw [if_neg (fun q => h3 (by have := q.1; omega))] at hk
      exact hk
  · rw [if_neg h0] at hk
    rw [if_pos (by omega)]
    exact hk
theorem ind_step {w k : Nat} (hz : MZ σ A) (hx : TM σ A xs) (hw : WM σ A W) (hin : Win xs W) (h0 : w < W.length) (h4 : (W.getD w (0, 0)).2 = (W.getD w (0, 0)).1 + 4) (hk4 : k < 4) (no : isL (xs.getD ((W.getD w (0, 0)).1 + k) 0) = false → K (.inl (some (.int (nI 0)))) σ) (yes : isL (xs.getD ((W.getD w (0, 0)).1 + k) 0) = true → PW (d + 1) M_Mod_isIndicator 18 [.ref A, .int (nI w), .int 1, .int (nI (k + 1))] [] σ K) : PW (d + 1) M_Mod_isIndicator 18 [.ref A, .int (nI w), .int 1, .int (nI k)] [] σ K := by
  have hin := hin w h0
  have hlt := getD_lt hx.2.2.2 ((W.getD w (0, 0)).1 + k)
  refine e_Mod_isIndicator_18 A _ _ _ ?_
  rw [if_neg (show ¬ (4 : Int32) ≤ nI k from fun q => by have := (nI_le_iff (a := 4) (by decide) (by omega)).mp q; omega), if_neg (by decide)]
  refine ⟨hz.1, c_letter hz hx hw h0 (by omega) ?_⟩
  simp only [kI_i]
  refine c_modLetter (by omega) ?_
  simp only [kI_i]
  rw [nI_1]
  cases hL : isL (xs.getD ((W.getD w (0, 0)).1 + k) 0) with
  | true => exact yes hL
  | false =>
    refine e_Mod_isIndicator_18 A _ _ _ ?_
    have := no hL
    by_cases h : (4 : Int32) ≤ nI (k + 1)
    · rw [if_pos h]; exact ⟨Or.inl rfl, this⟩
    · rw [if_neg h, if_pos (by decide)]; exact ⟨Or.inl rfl, this⟩
theorem c_modIsIndicator {w : Nat} (hz : MZ σ A) (hx : TM σ A xs) (hw : WM σ A W) (hin : Win xs W) (h0 : w < W.length) (hk : K (.inl (some (.int (nI (isI xs (W.getD w (0, 0))).toNat)))) σ) : PW (d + 1) M_Mod_isIndicator 0 [.ref A, .int (nI w), uu, uu] [] σ K := by
  have hx2 := hx.2.1
  have w2 := hw.2.1
  have hi := hin w h0
  refine e_Mod_isIndicator_0 A _ ?_
  simp (disch := omega) only [bs_pI, cc_pI, cs_pI, sh_pI, gR_pI, eI_pI, eR_pI, eL_pI, bs_pR, cc_pR, cs_pR, sh_pR, gI_pR, eI_pR, eR_pR, eL_pR, bs_uI, cc_uI, cs_uI, sh_uI, gI_uI, gR_uI, eR_uI, eL_uI, bs_uR, cc_uR, cs_uR, sh_uR, gI_uR, gR_uR, eI_uR, eL_uR, bs_uL, cc_uL, cs_uL, sh_uL, gI_uL, gR_uL, eI_uL, eR_uL, gI_s, gI_d, gR_s, gR_d, eI_s, eI_d, eI_e, eR_s, eR_d, eR_e, eL_s, eL_d, bs_bump, cc_bump, cs_bump, sh_bump, gI_bump, gR_bump, eI_bump, eR_bump, eL_bump, l_0, l_1, l_2, l_3, l_4, l_5, l_6, l_7, l_8, l_9, l_10, l_11, l_12, l_13, l_14, l_15, l_16, l_17, l_18, l_19, l_20, l_21, l_22, l_23, l_24, l_25, l_26, l_27, l_28, l_29, l_30, l_31, l_32, l_33, l_34, l_35, l_36, l_37, l_38, l_39, l_40, l_41, l_42, l_43, l_44, l_45, l_46, l_47, l_48, l_49, l_50, l_51, l_52, l_53, l_54, l_55, l_56, l_57, l_58, l_59, l_60, l_61, l_62, l_63, l_64, l_65, l_66, l_67, l_68, l_69, l_70, l_71, l_72, l_73, l_74, l_75, l_76, l_77, l_78, l_79, l_80, l_81, l_82, l_83, l_84, l_85, l_86, l_87, l_88, l_89, l_90, l_91, l_92, l_93, l_94, l_95, l_96, l_97, l_98, l_99, l_100, l_101, l_102, l_103, l_104, l_105, l_106, l_107, l_108, l_109, l_110, l_111, l_112, l_113, l_114, l_115, l_116, l_117, l_118, l_119, l_120, l_121, l_122, l_123, l_124, l_125, l_126, l_127, l_128, l_129, l_130, l_256, l_512, l_676, l_704, l_999, l_1000, l_4096, l_17576, l_32768, l_65535, l_456975, l_456976, l_m1, l_m2, in_iff, eq_m1, m1_eq, m1_lt, m1_le, le_m1, lt_m1, eq_m2, m2_m1, m1_m2, add_m1, m1_add, sub_n, mul_n, add_n, bo_n0, bo_n1, ch_n, lt_n, le_n, eq_n, ix_n, i2c_n, rem_n, div_n, kI_i, kI_x, kV_v, kV_x, kR_r, kR_n, kR_x, kHI_i, kHI_0, kHI_1, kHV_v, kHV_0, kHV_1, va_s, va_n, exists_eq_left', exists_eq_left, forall_eq, forall_eq', and_true, true_and, and_self, Option.some.injEq, Prod.mk.injEq, if_tt, if_ff, reduceIte, reduceCtorEq, not_true_eq_false, not_false_eq_true, Nat.reduceAdd, Nat.reduceMul, Nat.reduceSub, Nat.reduceLT, Nat.reduceLeDiff, Nat.reduceEqDiff, false_implies, true_implies, implies_true, hz.1, z_747 hz, s_747 hz, (hw.2.2 w h0).2]
  refine ⟨by omega, ?_⟩
  unfold isI at hk
  by_cases h4 : (W.getD w (0, 0)).2 - (W.getD w (0, 0)).1 = 4
  · rw [if_pos h4]
    have h4' : (W.getD w (0, 0)).2 = (W.getD w (0, 0)).1 + 4 := by omega
    have nope : ¬ (isL (xs.getD (W.getD w (0, 0)).1 0) = true ∧ isL (xs.getD ((W.getD w (0, 0)).1 + 1) 0) = true ∧ isL (xs.getD ((W.getD w (0, 0)).1 + 2) 0) = true ∧ isL (xs.getD ((W.getD w (0, 0)).1 + 3) 0) = true) → K (.inl (some (.int (nI 0)))) σ := by
      intro hn
      rw [decide_eq_false (fun q => hn q.2)] at hk
      exact hk
    refine e_Mod_isIndicator_15 A _ _ ?_
    refine ind_step (k := 0) hz hx hw hin h0 h4' (by omega) (fun q => nope (fun z => by rw [Nat.add_zero] at q; rw [q] at z; exact absurd z.1 (by decide))) (fun q1 => ?_)
    rw [Nat.add_zero] at q1
    refine ind_step (k := 1) hz hx hw hin h0 h4' (by omega) (fun q => nope (fun z => by rw [q] at z; exact absurd z.2.1 (by decide))) (fun q2 => ?_)
    refine ind_step (k := 2) hz hx hw hin h0 h4' (by omega) (fun q => nope (fun z => by rw [q] at z; exact absurd z.2.2.1 (by decide))) (fun q3 => ?_)
    refine ind_step (k := 3) hz hx hw hin h0 h4' (by omega) (fun q => nope (fun z => by rw [q] at z; exact absurd z.2.2.2 (by decide))) (fun q4 => ?_)
    refine e_Mod_isIndicator_18 A _ _ _ ?_
    rw [if_pos (by decide)]
    rw [decide_eq_true ⟨h4', q1, q2, q3, q4⟩] at hk
    exact ⟨Or.inr rfl, hk⟩
  · rw [if_neg h4]
    rw [decide_eq_false (fun q => h4 (by have := q.1; omega))] at hk
    refine e_Mod_isIndicator_15 A _ _ (e_Mod_isIndicator_18 A _ _ _ ?_)
    rw [if_neg (by decide), if_pos (by decide)]
    exact ⟨Or.inl rfl, hk⟩
theorem indOf_step {w k v : Nat} (hz : MZ σ A) (hx : TM σ A xs) (hw : WM σ A W) (hin : Win xs W) (h0 : w < W.length) (h4 : (W.getD w (0, 0)).2 = (W.getD w (0, 0)).1 + 4) (hk4 : k < 4) (hv : v < 20000) (hL : isL (xs.getD ((W.getD w (0, 0)).1 + k) 0) = true) (yes : PW (d + 1) M_Mod_indicatorOf 4 [.ref A, .int (nI w), .int (nI (26 * v + (xs.getD ((W.getD w (0, 0)).1 + k) 0 - 65))), .int (nI (k + 1))] [] σ K) : PW (d + 1) M_Mod_indicatorOf 4 [.ref A, .int (nI w), .int (nI v), .int (nI k)] [] σ K := by
  have hin := hin w h0
  have hlt := getD_lt hx.2.2.2 ((W.getD w (0, 0)).1 + k)
  have hL2 := isL_iff.mp hL
  refine e_Mod_indicatorOf_4 A _ _ _ ?_
  rw [if_neg (show ¬ (4 : Int32) ≤ nI k from fun q => by have := (nI_le_iff (a := 4) (by decide) (by omega)).mp q; omega)]
  refine ⟨hz.1, c_letter hz hx hw h0 (by omega) ?_⟩
  simp (disch := omega) only [bs_pI, cc_pI, cs_pI, sh_pI, gR_pI, eI_pI, eR_pI, eL_pI, bs_pR, cc_pR, cs_pR, sh_pR, gI_pR, eI_pR, eR_pR, eL_pR, bs_uI, cc_uI, cs_uI, sh_uI, gI_uI, gR_uI, eR_uI, eL_uI, bs_uR, cc_uR, cs_uR, sh_uR, gI_uR, gR_uR, eI_uR, eL_uR, bs_uL, cc_uL, cs_uL, sh_uL, gI_uL, gR_uL, eI_uL, eR_uL, gI_s, gI_d, gR_s, gR_d, eI_s, eI_d, eI_e, eR_s, eR_d, eR_e, eL_s, eL_d, bs_bump, cc_bump, cs_bump, sh_bump, gI_bump, gR_bump, eI_bump, eR_bump, eL_bump, l_0, l_1, l_2, l_3, l_4, l_5, l_6, l_7, l_8, l_9, l_10, l_11, l_12, l_13, l_14, l_15, l_16, l_17, l_18, l_19, l_20, l_21, l_22, l_23, l_24, l_25, l_26, l_27, l_28, l_29, l_30, l_31, l_32, l_33, l_34, l_35, l_36, l_37, l_38, l_39, l_40, l_41, l_42, l_43, l_44, l_45, l_46, l_47, l_48, l_49, l_50, l_51, l_52, l_53, l_54, l_55, l_56, l_57, l_58, l_59, l_60, l_61, l_62, l_63, l_64, l_65, l_66, l_67, l_68, l_69, l_70, l_71, l_72, l_73, l_74, l_75, l_76, l_77, l_78, l_79, l_80, l_81, l_82, l_83, l_84, l_85, l_86, l_87, l_88, l_89, l_90, l_91, l_92, l_93, l_94, l_95, l_96, l_97, l_98, l_99, l_100, l_101, l_102, l_103, l_104, l_105, l_106, l_107, l_108, l_109, l_110, l_111, l_112, l_113, l_114, l_115, l_116, l_117, l_118, l_119, l_120, l_121, l_122, l_123, l_124, l_125, l_126, l_127, l_128, l_129, l_130, l_256, l_512, l_676, l_704, l_999, l_1000, l_4096, l_17576, l_32768, l_65535, l_456975, l_456976, l_m1, l_m2, in_iff, eq_m1, m1_eq, m1_lt, m1_le, le_m1, lt_m1, eq_m2, m2_m1, m1_m2, add_m1, m1_add, sub_n, mul_n, add_n, bo_n0, bo_n1, ch_n, lt_n, le_n, eq_n, ix_n, i2c_n, rem_n, div_n, kI_i, kI_x, kV_v, kV_x, kR_r, kR_n, kR_x, kHI_i, kHI_0, kHI_1, kHV_v, kHV_0, kHV_1, va_s, va_n, exists_eq_left', exists_eq_left, forall_eq, forall_eq', and_true, true_and, and_self, Option.some.injEq, Prod.mk.injEq, if_tt, if_ff, reduceIte, reduceCtorEq, not_true_eq_false, not_false_eq_true, Nat.reduceAdd, Nat.reduceMul, Nat.reduceSub, Nat.reduceLT, Nat.reduceLeDiff, Nat.reduceEqDiff, false_implies, true_implies, implies_true]
  rw [show 26 * v + (xs.getD ((W.getD w (0, 0)).1 + k) 0 - 65) = 26 * v + xs.getD ((W.getD w (0, 0)).1 + k) 0 - 65 by omega] at yes
  exact yes
theorem c_modIndicatorOf {w : Nat} (hz : MZ σ A) (hx : TM σ A xs) (hw : WM σ A W) (hin : Win xs W) (h0 : w < W.length) (hI : isI xs (W.getD w (0, 0)) = true) (hk : K (.inl (some (.int (nI (indV xs (W.getD w (0, 0))))))) σ) : PW (d + 1) M_Mod_indicatorOf 0 [.ref A, .int (nI w), uu, uu] [] σ K := by
  obtain ⟨h4, l0, l1, l2, l3⟩ := of_decide_eq_true hI
  have m0 := isL_iff.mp l0
  have m1 := isL_iff.mp l1
  have m2 := isL_iff.mp l2
  have m3 := isL_iff.mp l3
  refine e_Mod_indicatorOf_0 A _ ?_
  refine indOf_step (k := 0) (v := 0) hz hx hw hin h0 h4 (by omega) (by omega) l0 ?_
  simp only [Nat.add_zero, Nat.mul_zero, Nat.zero_add]
  refine indOf_step (k := 1) hz hx hw hin h0 h4 (by omega) (by omega) l1 ?_
  refine indOf_step (k := 2) hz hx hw hin h0 h4 (by omega) (by omega) l2 ?_
  refine indOf_step (k := 3) hz hx hw hin h0 h4 (by omega) (by omega) l3 ?_
  refine e_Mod_indicatorOf_4 A _ _ _ ?_
  rw [if_pos (by decide)]
  unfold indV at hk
  rw [show 26 * (26 * (26 * (xs.getD (W.getD w (0, 0)).1 0 - 65) + (xs.getD ((W.getD w (0, 0)).1 + 1) 0 - 65)) + (xs.getD ((W.getD w (0, 0)).1 + 2) 0 - 65)) + (xs.getD ((W.getD w (0, 0)).1 + 3) 0 - 65) = (((xs.getD (W.getD w (0, 0)).1 0 - 65) * 26 + (xs.getD ((W.getD w (0, 0)).1 + 1) 0 - 65)) * 26 + (xs.getD ((W.getD w (0, 0)).1 + 2) 0 - 65)) * 26 + (xs.getD ((W.getD w (0, 0)).1 + 3) 0 - 65) by omega]
  exact hk
end Mod3
