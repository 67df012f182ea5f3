/-! ===== contracts of Outlet ===== -/
/-- an outlet: what is being sent (its message's address), as which number, again?, the last number, what is asked for, what is kept (the latest first), the tape, the place there, the shift -/
def OU (σ : PH) (a c : Nat) (cur : Option Nat) (n : Nat) (ag : Bool) (ln : Nat) (ask kp tp : List Nat) (pos : Nat) (fg : Bool) : Prop := sh σ a = (1, 5) ∧ gI σ 320 a = nI c ∧ c < 8 ∧ gR σ 321 a = some (a + 1) ∧ TX σ (a + 1) 68 tp ∧ gI σ 322 a = nI pos ∧ pos ≤ 100 ∧ gI σ 323 a = nI fg.toNat ∧ gR σ 324 a = cur ∧ gI σ 325 a = nI n ∧ n ≤ 999 ∧ gI σ 326 a = nI ag.toNat ∧ gI σ 327 a = nI ln ∧ ln ≤ 999 ∧ gR σ 328 a = some (a + 3) ∧ sh σ (a + 3) = (7, 3) ∧ gI σ 329 a = nI ask.length ∧ ask.length ≤ 3 ∧ (∀ i, i < ask.length → eR σ (a + 3) i = ask[i]?) ∧ gR σ 330 a = some (a + 4) ∧ sh σ (a + 4) = (7, 3) ∧ kp.length ≤ 3 ∧ (∀ i, i < 3 → eR σ (a + 4) i = kp[i]?)
abbrev oP (a : Nat) : Nat → Prop := fun q => a ≤ q ∧ q < a + 5
section COutlet
variable {d : Nat} {σ : PH} {K : PO → PH → Prop} {a c : Nat} {cur : Option Nat} {n : Nat} {ag : Bool} {ln : Nat} {ask kp tp : List Nat} {pos : Nat} {fg : Bool}
theorem OU.kept {σ' : PH} (h : OU σ a c cur n ag ln ask kp tp pos fg) (h1 : ∀ q, a ≤ q → q < a + 5 → Ag σ σ' q) : OU σ' a c cur n ag ln ask kp tp pos fg := by
  obtain ⟨a1, a2, a3, a4, a5, a6, a7, a8, a9, a10, a11, a12, a13, a14, a15, a16, a17, a18, a19, a20, a21, a22, a23⟩ := h
  have g0 := h1 a (by omega) (by omega)
  have g3 := h1 (a + 3) (by omega) (by omega)
  have g4 := h1 (a + 4) (by omega) (by omega)
  exact ⟨by rw [g0.1]; exact a1, by rw [g0.2.1]; exact a2, a3, by rw [g0.2.2.1]; exact a4, a5.ag (h1 _ (by omega) (by omega)) (h1 _ (by omega) (by omega)), by rw [g0.2.1]; exact a6, a7, by rw [g0.2.1]; exact a8, by rw [g0.2.2.1]; exact a9, by rw [g0.2.1]; exact a10, a11, by rw [g0.2.1]; exact a12, by rw [g0.2.1]; exact a13, a14, by rw [g0.2.2.1]; exact a15, by rw [g3.1]; exact a16, by rw [g0.2.1]; exact a17, a18, fun i hi => by rw [g3.2.2.2.2.1]; exact a19 i hi, by rw [g0.2.2.1]; exact a20, by rw [g4.1]; exact a21, a22, fun i hi => by rw [g4.2.2.2.2.1]; exact a23 i hi⟩
theorem c_Outlet_isIdle (h : OU σ a c cur n ag ln ask kp tp pos fg) (hk : K (.inl (some (.int (nI (decide (cur = none)).toNat)))) σ) : PW d M_Outlet_isIdle 0 [.ref a] [] σ K := by
  obtain ⟨a1, a2, a3, a4, a5, a6, a7, a8, a9, a10, a11, a12, a13, a14, a15, a16, a17, a18, a19, a20, a21, a22, a23⟩ := h
  refine e_Outlet_isIdle_0 a ⟨a1, ?_⟩
  rw [a9]
  by_cases h0 : cur = none
  · rw [if_pos h0]; rw [decide_eq_true h0] at hk; exact hk
  · rw [if_neg h0]; rw [decide_eq_false h0] at hk; exact hk
theorem c_Outlet_beginAnew (h : OU σ a c cur n ag ln ask kp tp pos fg) (hk : ∀ σ', OU σ' a c cur n ag ln ask kp tp 0 false → Fr (oP a) σ σ' → K (.inl none) σ') : PW d M_Outlet_beginAnew 0 [.ref a] [] σ K := by
  obtain ⟨a1, a2, a3, a4, a5, a6, a7, a8, a9, a10, a11, a12, a13, a14, a15, a16, a17, a18, a19, a20, a21, a22, a23⟩ := h
  refine e_Outlet_beginAnew_0 a ?_
  simp (disch := omega) only [bs_pI, cc_pI, cs_pI, sh_pI, gR_pI, eI_pI, eR_pI, eL_pI, bs_pR, cc_pR, cs_pR, sh_pR, gI_pR, eI_pR, eR_pR, eL_pR, bs_uI, cc_uI, cs_uI, sh_uI, gI_uI, gR_uI, eR_uI, eL_uI, bs_uR, cc_uR, cs_uR, sh_uR, gI_uR, gR_uR, eI_uR, eL_uR, bs_uL, cc_uL, cs_uL, sh_uL, gI_uL, gR_uL, eI_uL, eR_uL, gI_s, gI_d, gR_s, gR_d, eI_s, eI_d, eI_e, eR_s, eR_d, eR_e, eL_s, eL_d, bs_bump, cc_bump, cs_bump, sh_bump, gI_bump, gR_bump, eI_bump, eR_bump, eL_bump, l_0, l_1, l_2, l_3, l_4, l_5, l_6, l_7, l_8, l_9, l_10, l_11, l_12, l_13, l_14, l_15, l_16, l_17, l_18, l_19, l_20, l_21, l_22, l_23, l_24, l_25, l_26, l_27, l_28, l_29, l_30, l_31, l_32, l_33, l_34, l_35, l_36, l_37, l_38, l_39, l_40, l_41, l_42, l_43, l_44, l_45, l_46, l_47, l_48, l_49, l_50, l_51, l_52, l_53, l_54, l_55, l_56, l_57, l_58, l_59, l_60, l_61, l_62, l_63, l_64, l_65, l_66, l_67, l_68, l_69, l_70, l_71, l_72, l_73, l_74, l_75, l_76, l_77, l_78, l_79, l_80, l_81, l_82, l_83, l_84, l_85, l_86, l_87, l_88, l_89, l_90, l_91, l_92, l_93, l_94, l_95, l_96, l_97, l_98, l_99, l_100, l_101, l_102, l_103, l_104, l_105, l_106, l_107, l_108, l_109, l_110, l_111, l_112, l_113, l_114, l_115, l_116, l_117, l_118, l_119, l_120, l_121, l_122, l_123, l_124, l_125, l_126, l_127, l_128, l_129, l_130, l_256, l_512, l_676, l_704, l_999, l_1000, l_4096, l_17576, l_32768, l_65535, l_456975, l_456976, l_m1, l_m2, in_iff, eq_m1, m1_eq, m1_lt, m1_le, le_m1, lt_m1, eq_m2, m2_m1, m1_m2, add_m1, m1_add, sub_n, mul_n, add_n, bo_n0, bo_n1, ch_n, lt_n, le_n, eq_n, ix_n, i2c_n, rem_n, div_n, kI_i, kI_x, kV_v, kV_x, kR_r, kR_n, kR_x, kHI_i, kHI_0, kHI_1, kHV_v, kHV_0, kHV_1, va_s, va_n, exists_eq_left', exists_eq_left, forall_eq, forall_eq', and_true, true_and, and_self, Option.some.injEq, Prod.mk.injEq, if_tt, if_ff, reduceIte, reduceCtorEq, not_true_eq_false, not_false_eq_true, Nat.reduceAdd, Nat.reduceMul, Nat.reduceSub, Nat.reduceLT, Nat.reduceLeDiff, Nat.reduceEqDiff, false_implies, true_implies, implies_true, a1]
  refine hk _ ⟨a1, ?_, a3, a4, a5.ag ((Ag.pI (by omega)).tr (Ag.pI (by omega))) ((Ag.pI (by omega)).tr (Ag.pI (by omega))), ?_, by omega, ?_, a9, ?_, a11, ?_, ?_, a14, a15, a16, ?_, a18, a19, a20, a21, a22, a23⟩ ((Fr.pI (by unfold oP; omega)).tr (Fr.pI (by unfold oP; omega)))
  all_goals (simp (disch := omega) only [bs_pI, cc_pI, cs_pI, sh_pI, gR_pI, eI_pI, eR_pI, eL_pI, bs_pR, cc_pR, cs_pR, sh_pR, gI_pR, eI_pR, eR_pR, eL_pR, bs_uI, cc_uI, cs_uI, sh_uI, gI_uI, gR_uI, eR_uI, eL_uI, bs_uR, cc_uR, cs_uR, sh_uR, gI_uR, gR_uR, eI_uR, eL_uR, bs_uL, cc_uL, cs_uL, sh_uL, gI_uL, gR_uL, eI_uL, eR_uL, gI_s, gI_d, gR_s, gR_d, eI_s, eI_d, eI_e, eR_s, eR_d, eR_e, eL_s, eL_d, bs_bump, cc_bump, cs_bump, sh_bump, gI_bump, gR_bump, eI_bump, eR_bump, eL_bump]; try first | assumption | rfl)
theorem fI_num {F k : Nat} (hF : F < 2000) (h1 : 1 ≤ k) (h2 : k ≤ 999) : (fI F = nI k) = (F = k + 2) := by
  unfold fI
  by_cases h0 : F = 0
  · rw [if_pos h0, eq_n (by decide) (by omega)]; exact propext ⟨fun q => by omega, fun q => by omega⟩
  · rw [if_neg h0]
    by_cases h1 : F = 1
    · rw [if_pos h1, m1_eq (by omega)]; exact propext ⟨fun q => q.elim, fun q => by omega⟩
    · rw [if_neg h1]
      by_cases h2 : F = 2
      · rw [if_pos h2]
        refine propext ⟨fun q => ?_, fun q => by omega⟩
        rw [eq_comm, eq_m2 (by omega)] at q; exact q.elim
      · rw [if_neg h2, eq_n (by omega) (by omega)]; exact propext ⟨fun q => by omega, fun q => by omega⟩
/-- the first of the kept ones that was sent as k -/
def fnd (mm : Nat → MS) (c k : Nat) (kp : List Nat) : Option Nat := kp.find? (fun x => decide ((mm x).2.2.2 c = k + 2))
theorem asksAgain_loop {mm : Nat → MS} {k : Nat} (h1 : 1 ≤ k) (h2 : k ≤ 999) (h : OU σ a c cur n ag ln ask kp tp pos fg) (hm : ∀ x ∈ kp, ME σ x (mm x)) (hl : ask.length < 3) (hkn : fnd mm c k kp = none → K (.inl (some (.int (nI 0)))) σ) (hks : ∀ x σ', fnd mm c k kp = some x → OU σ' a c cur n ag ln (ask ++ [x]) kp tp pos fg → Fr (oP a) σ σ' → K (.inl (some (.int (nI 1)))) σ') : ∀ (m i : Nat), i + m = 3 → fnd mm c k (kp.drop i) = fnd mm c k kp → PW d M_Outlet_asksAgain 2 [.ref a, .int (nI k), .int (nI i), uu] [] σ K := by
  have h0 := h
  obtain ⟨a1, a2, a3, a4, a5, a6, a7, a8, a9, a10, a11, a12, a13, a14, a15, a16, a17, a18, a19, a20, a21, a22, a23⟩ := h
  intro m
  induction m with
  | zero =>
    intro i hi hd
    refine e_Outlet_asksAgain_2 a _ _ ?_
    simp (disch := omega) only [bs_pI, cc_pI, cs_pI, sh_pI, gR_pI, eI_pI, eR_pI, eL_pI, bs_pR, cc_pR, cs_pR, sh_pR, gI_pR, eI_pR, eR_pR, eL_pR, bs_uI, cc_uI, cs_uI, sh_uI, gI_uI, gR_uI, eR_uI, eL_uI, bs_uR, cc_uR, cs_uR, sh_uR, gI_uR, gR_uR, eI_uR, eL_uR, bs_uL, cc_uL, cs_uL, sh_uL, gI_uL, gR_uL, eI_uL, eR_uL, gI_s, gI_d, gR_s, gR_d, eI_s, eI_d, eI_e, eR_s, eR_d, eR_e, eL_s, eL_d, bs_bump, cc_bump, cs_bump, sh_bump, gI_bump, gR_bump, eI_bump, eR_bump, eL_bump, l_0, l_1, l_2, l_3, l_4, l_5, l_6, l_7, l_8, l_9, l_10, l_11, l_12, l_13, l_14, l_15, l_16, l_17, l_18, l_19, l_20, l_21, l_22, l_23, l_24, l_25, l_26, l_27, l_28, l_29, l_30, l_31, l_32, l_33, l_34, l_35, l_36, l_37, l_38, l_39, l_40, l_41, l_42, l_43, l_44, l_45, l_46, l_47, l_48, l_49, l_50, l_51, l_52, l_53, l_54, l_55, l_56, l_57, l_58, l_59, l_60, l_61, l_62, l_63, l_64, l_65, l_66, l_67, l_68, l_69, l_70, l_71, l_72, l_73, l_74, l_75, l_76, l_77, l_78, l_79, l_80, l_81, l_82, l_83, l_84, l_85, l_86, l_87, l_88, l_89, l_90, l_91, l_92, l_93, l_94, l_95, l_96, l_97, l_98, l_99, l_100, l_101, l_102, l_103, l_104, l_105, l_106, l_107, l_108, l_109, l_110, l_111, l_112, l_113, l_114, l_115, l_116, l_117, l_118, l_119, l_120, l_121, l_122, l_123, l_124, l_125, l_126, l_127, l_128, l_129, l_130, l_256, l_512, l_676, l_704, l_999, l_1000, l_4096, l_17576, l_32768, l_65535, l_456975, l_456976, l_m1, l_m2, in_iff, eq_m1, m1_eq, m1_lt, m1_le, le_m1, lt_m1, eq_m2, m2_m1, m1_m2, add_m1, m1_add, sub_n, mul_n, add_n, bo_n0, bo_n1, ch_n, lt_n, le_n, eq_n, ix_n, i2c_n, rem_n, div_n, kI_i, kI_x, kV_v, kV_x, kR_r, kR_n, kR_x, kHI_i, kHI_0, kHI_1, kHV_v, kHV_0, kHV_1, va_s, va_n, exists_eq_left', exists_eq_left, forall_eq, forall_eq', and_true, true_and, and_self, Option.some.injEq, Prod.mk.injEq, if_tt, if_ff, reduceIte, reduceCtorEq, not_true_eq_false, not_false_eq_true, Nat.reduceAdd, Nat.reduceMul, Nat.reduceSub, Nat.reduceLT, Nat.reduceLeDiff, Nat.reduceEqDiff, false_implies, true_implies, implies_true]
    rw [if_pos (by omega)]
    refine hkn ?_
    rw [← hd, List.drop_eq_nil_of_le (by omega)]; rfl
  | succ m ih =>
    intro i hi hd
    refine e_Outlet_asksAgain_2 a _ _ ?_
    simp (disch := omega) only [bs_pI, cc_pI, cs_pI, sh_pI, gR_pI, eI_pI, eR_pI, eL_pI, bs_pR, cc_pR, cs_pR, sh_pR, gI_pR, eI_pR, eR_pR, eL_pR, bs_uI, cc_uI, cs_uI, sh_uI, gI_uI, gR_uI, eR_uI, eL_uI, bs_uR, cc_uR, cs_uR, sh_uR, gI_uR, gR_uR, eI_uR, eL_uR, bs_uL, cc_uL, cs_uL, sh_uL, gI_uL, gR_uL, eI_uL, eR_uL, gI_s, gI_d, gR_s, gR_d, eI_s, eI_d, eI_e, eR_s, eR_d, eR_e, eL_s, eL_d, bs_bump, cc_bump, cs_bump, sh_bump, gI_bump, gR_bump, eI_bump, eR_bump, eL_bump, l_0, l_1, l_2, l_3, l_4, l_5, l_6, l_7, l_8, l_9, l_10, l_11, l_12, l_13, l_14, l_15, l_16, l_17, l_18, l_19, l_20, l_21, l_22, l_23, l_24, l_25, l_26, l_27, l_28, l_29, l_30, l_31, l_32, l_33, l_34, l_35, l_36, l_37, l_38, l_39, l_40, l_41, l_42, l_43, l_44, l_45, l_46, l_47, l_48, l_49, l_50, l_51, l_52, l_53, l_54, l_55, l_56, l_57, l_58, l_59, l_60, l_61, l_62, l_63, l_64, l_65, l_66, l_67, l_68, l_69, l_70, l_71, l_72, l_73, l_74, l_75, l_76, l_77, l_78, l_79, l_80, l_81, l_82, l_83, l_84, l_85, l_86, l_87, l_88, l_89, l_90, l_91, l_92, l_93, l_94, l_95, l_96, l_97, l_98, l_99, l_100, l_101, l_102, l_103, l_104, l_105, l_106, l_107, l_108, l_109, l_110, l_111, l_112, l_113, l_114, l_115, l_116, l_117, l_118, l_119, l_120, l_121, l_122, l_123, l_124, l_125, l_126, l_127, l_128, l_129, l_130, l_256, l_512, l_676, l_704, l_999, l_1000, l_4096, l_17576, l_32768, l_65535, l_456975, l_456976, l_m1, l_m2, in_iff, eq_m1, m1_eq, m1_lt, m1_le, le_m1, lt_m1, eq_m2, m2_m1, m1_m2, add_m1, m1_add, sub_n, mul_n, add_n, bo_n0, bo_n1, ch_n, lt_n, le_n, eq_n, ix_n, i2c_n, rem_n, div_n, kI_i, kI_x, kV_v, kV_x, kR_r, kR_n, kR_x, kHI_i, kHI_0, kHI_1, kHV_v, kHV_0, kHV_1, va_s, va_n, exists_eq_left', exists_eq_left, forall_eq, forall_eq', and_true, true_and, and_self, Option.some.injEq, Prod.mk.injEq, if_tt, if_ff, reduceIte, reduceCtorEq, not_true_eq_false, not_false_eq_true, Nat.reduceAdd, Nat.reduceMul, Nat.reduceSub, Nat.reduceLT, Nat.reduceLeDiff, Nat.reduceEqDiff, false_implies, true_implies, implies_true, a1, a20, a21]
    rw [if_neg (by omega), a23 i (by omega)]
    refine ⟨by omega, ?_⟩
    by_cases hlt : i < kp.length
    · rw [List.getElem?_eq_getElem hlt]
      obtain ⟨b1, b2, b3, b4, b5, b6, b7, b8, b9, b10, b11, b12, b13, b14, b15⟩ := hm _ (List.getElem_mem hlt)
      obtain ⟨e, hb⟩ := b14 c a3
      rw [if_neg (by simp)]
      simp (disch := omega) only [bs_pI, cc_pI, cs_pI, sh_pI, gR_pI, eI_pI, eR_pI, eL_pI, bs_pR, cc_pR, cs_pR, sh_pR, gI_pR, eI_pR, eR_pR, eL_pR, bs_uI, cc_uI, cs_uI, sh_uI, gI_uI, gR_uI, eR_uI, eL_uI, bs_uR, cc_uR, cs_uR, sh_uR, gI_uR, gR_uR, eI_uR, eL_uR, bs_uL, cc_uL, cs_uL, sh_uL, gI_uL, gR_uL, eI_uL, eR_uL, gI_s, gI_d, gR_s, gR_d, eI_s, eI_d, eI_e, eR_s, eR_d, eR_e, eL_s, eL_d, bs_bump, cc_bump, cs_bump, sh_bump, gI_bump, gR_bump, eI_bump, eR_bump, eL_bump, l_0, l_1, l_2, l_3, l_4, l_5, l_6, l_7, l_8, l_9, l_10, l_11, l_12, l_13, l_14, l_15, l_16, l_17, l_18, l_19, l_20, l_21, l_22, l_23, l_24, l_25, l_26, l_27, l_28, l_29, l_30, l_31, l_32, l_33, l_34, l_35, l_36, l_37, l_38, l_39, l_40, l_41, l_42, l_43, l_44, l_45, l_46, l_47, l_48, l_49, l_50, l_51, l_52, l_53, l_54, l_55, l_56, l_57, l_58, l_59, l_60, l_61, l_62, l_63, l_64, l_65, l_66, l_67, l_68, l_69, l_70, l_71, l_72, l_73, l_74, l_75, l_76, l_77, l_78, l_79, l_80, l_81, l_82, l_83, l_84, l_85, l_86, l_87, l_88, l_89, l_90, l_91, l_92, l_93, l_94, l_95, l_96, l_97, l_98, l_99, l_100, l_101, l_102, l_103, l_104, l_105, l_106, l_107, l_108, l_109, l_110, l_111, l_112, l_113, l_114, l_115, l_116, l_117, l_118, l_119, l_120, l_121, l_122, l_123, l_124, l_125, l_126, l_127, l_128, l_129, l_130, l_256, l_512, l_676, l_704, l_999, l_1000, l_4096, l_17576, l_32768, l_65535, l_456975, l_456976, l_m1, l_m2, in_iff, eq_m1, m1_eq, m1_lt, m1_le, le_m1, lt_m1, eq_m2, m2_m1, m1_m2, add_m1, m1_add, sub_n, mul_n, add_n, bo_n0, bo_n1, ch_n, lt_n, le_n, eq_n, ix_n, i2c_n, rem_n, div_n, kI_i, kI_x, kV_v, kV_x, kR_r, kR_n, kR_x, kHI_i, kHI_0, kHI_1, kHV_v, kHV_0, kHV_1, va_s, va_n, exists_eq_left', exists_eq_left, forall_eq, forall_eq', and_true, true_and, and_self, Option.some.injEq, Prod.mk.injEq, if_tt, if_ff, reduceIte, reduceCtorEq, not_true_eq_false, not_false_eq_true, Nat.reduceAdd, Nat.reduceMul, Nat.reduceSub, Nat.reduceLT, Nat.reduceLeDiff, Nat.reduceEqDiff, false_implies, true_implies, implies_true, b1, b6, b7, a2, e, fI_num hb h1 h2, a17, a15, a16]
      have hd' : kp.drop i = kp[i] :: kp.drop (i + 1) := List.drop_eq_getElem_cons hlt
      refine ⟨by omega, ?_⟩
      by_cases he : (mm kp[i]).2.2.2 c = k + 2
      · rw [if_pos he, if_neg (by omega)]
        refine ⟨by omega, hks kp[i] _ ?_ ⟨a1, ?_, a3, a4, a5.ag ((Ag.uR (by omega)).tr (Ag.pI (by omega))) ((Ag.uR (by omega)).tr (Ag.pI (by omega))), ?_, a7, ?_, a9, ?_, a11, ?_, ?_, a14, a15, a16, ?_, by simp; omega, fun j hj => ?_, a20, a21, a22, fun j hj => ?_⟩ ((Fr.uR (by unfold oP; omega)).tr (Fr.pI (by unfold oP; omega)))⟩
        · rw [← hd, hd']; unfold fnd; rw [List.find?_cons, decide_eq_true he]
        any_goals (simp (disch := omega) only [bs_pI, cc_pI, cs_pI, sh_pI, gR_pI, eI_pI, eR_pI, eL_pI, bs_pR, cc_pR, cs_pR, sh_pR, gI_pR, eI_pR, eR_pR, eL_pR, bs_uI, cc_uI, cs_uI, sh_uI, gI_uI, gR_uI, eR_uI, eL_uI, bs_uR, cc_uR, cs_uR, sh_uR, gI_uR, gR_uR, eI_uR, eL_uR, bs_uL, cc_uL, cs_uL, sh_uL, gI_uL, gR_uL, eI_uL, eR_uL, gI_s, gI_d, gR_s, gR_d, eI_s, eI_d, eI_e, eR_s, eR_d, eR_e, eL_s, eL_d, bs_bump, cc_bump, cs_bump, sh_bump, gI_bump, gR_bump, eI_bump, eR_bump, eL_bump]; try first | assumption | (simp; done))
        · rw [eR_uR]
          by_cases hja : j = ask.length
          · rw [if_pos ⟨rfl, hja⟩, hja]; simp
          · have hja2 : j < ask.length := by simp at hj; omega
            rw [if_neg (fun q => hja q.2), a19 j hja2, List.getElem?_append_left hja2]
        · exact a23 j hj
      · rw [if_neg he]
        refine e_Outlet_asksAgain_61 a _ _ ?_
        rw [nI_1]
        refine ih (i + 1) (by omega) ?_
        rw [← hd, hd']
        unfold fnd
        rw [List.find?_cons, decide_eq_false he]
    · rw [List.getElem?_eq_none (by omega), if_pos rfl]
      refine e_Outlet_asksAgain_61 a _ _ ?_
      rw [nI_1]
      refine ih (i + 1) (by omega) ?_
      rw [← hd, List.drop_eq_nil_of_le (by omega), List.drop_eq_nil_of_le (by omega)]
theorem c_Outlet_asksAgain {mm : Nat → MS} {k : Nat} (h1 : 1 ≤ k) (h2 : k ≤ 999) (h : OU σ a c cur n ag ln ask kp tp pos fg) (hm : ∀ x ∈ kp, ME σ x (mm x)) (hl : ask.length < 3) (hkn : fnd mm c k kp = none → K (.inl (some (.int (nI 0)))) σ) (hks : ∀ x σ', fnd mm c k kp = some x → OU σ' a c cur n ag ln (ask ++ [x]) kp tp pos fg → Fr (oP a) σ σ' → K (.inl (some (.int (nI 1)))) σ') : PW d M_Outlet_asksAgain 0 [.ref a, .int (nI k), uu, uu] [] σ K :=
  e_Outlet_asksAgain_0 a _ (asksAgain_loop h1 h2 h hm hl hkn hks 3 0 (by omega) rfl)
theorem c_Outlet_start {x k : Nat} {g : Bool} {m : MS} (h : OU σ a c cur n ag ln ask kp tp pos fg) (hk1 : k ≤ 999) (hm : ME σ x m) (hx : x + 5 ≤ a ∨ a + 5 ≤ x) (hk : ∀ σ', OU σ' a c (some x) k g ln ask kp (tape m k g) 0 false → Fr (oP a) σ σ' → K (.inl none) σ') : PW (d + 3) M_Outlet_start 0 [.ref a, .ref x, .int (nI k), .int (nI g.toNat)] [] σ K := by
  obtain ⟨a1, a2, a3, a4, a5, a6, a7, a8, a9, a10, a11, a12, a13, a14, a15, a16, a17, a18, a19, a20, a21, a22, a23⟩ := h
  refine e_Outlet_start_0 a x _ _ ?_
  have hbo : bo (nI g.toNat) := by cases g; exact Or.inl rfl; exact Or.inr rfl
  have f1 : Fr (oP a) σ (pI (pI (pR σ 324 a (some x)) 325 a (nI k)) 326 a (nI g.toNat)) := ((Fr.pR (by unfold oP; omega)).tr (Fr.pI (by unfold oP; omega))).tr (Fr.pI (by unfold oP; omega))
  have hm1 := hm.ag (fun q h1 h2 => f1.ag (q := q) (by unfold oP; omega))
  simp (disch := omega) only [bs_pI, cc_pI, cs_pI, sh_pI, gR_pI, eI_pI, eR_pI, eL_pI, bs_pR, cc_pR, cs_pR, sh_pR, gI_pR, eI_pR, eR_pR, eL_pR, bs_uI, cc_uI, cs_uI, sh_uI, gI_uI, gR_uI, eR_uI, eL_uI, bs_uR, cc_uR, cs_uR, sh_uR, gI_uR, gR_uR, eI_uR, eL_uR, bs_uL, cc_uL, cs_uL, sh_uL, gI_uL, gR_uL, eI_uL, eR_uL, gI_s, gI_d, gR_s, gR_d, eI_s, eI_d, eI_e, eR_s, eR_d, eR_e, eL_s, eL_d, bs_bump, cc_bump, cs_bump, sh_bump, gI_bump, gR_bump, eI_bump, eR_bump, eL_bump, l_0, l_1, l_2, l_3, l_4, l_5, l_6, l_7, l_8, l_9, l_10, l_11, l_12, l_13, l_14, l_15, l_16, l_17, l_18, l_19, l_20, l_21, l_22, l_23, l_24, l_25, l_26, l_27, l_28, l_29, l_30, l_31, l_32, l_33, l_34, l_35, l_36, l_37, l_38, l_39, l_40, l_41, l_42, l_43, l_44, l_45, l_46, l_47, l_48, l_49, l_50, l_51, l_52, l_53, l_54, l_55, l_56, l_57, l_58, l_59, l_60, l_61, l_62, l_63, l_64, l_65, l_66, l_67, l_68, l_69, l_70, l_71, l_72, l_73, l_74, l_75, l_76, l_77, l_78, l_79, l_80, l_81, l_82, l_83, l_84, l_85, l_86, l_87, l_88, l_89, l_90, l_91, l_92, l_93, l_94, l_95, l_96, l_97, l_98, l_99, l_100, l_101, l_102, l_103, l_104, l_105, l_106, l_107, l_108, l_109, l_110, l_111, l_112, l_113, l_114, l_115, l_116, l_117, l_118, l_119, l_120, l_121, l_122, l_123, l_124, l_125, l_126, l_127, l_128, l_129, l_130, l_256, l_512, l_676, l_704, l_999, l_1000, l_4096, l_17576, l_32768, l_65535, l_456975, l_456976, l_m1, l_m2, in_iff, eq_m1, m1_eq, m1_lt, m1_le, le_m1, lt_m1, eq_m2, m2_m1, m1_m2, add_m1, m1_add, sub_n, mul_n, add_n, bo_n0, bo_n1, ch_n, lt_n, le_n, eq_n, ix_n, i2c_n, rem_n, div_n, kI_i, kI_x, kV_v, kV_x, kR_r, kR_n, kR_x, kHI_i, kHI_0, kHI_1, kHV_v, kHV_0, kHV_1, va_s, va_n, exists_eq_left', exists_eq_left, forall_eq, forall_eq', and_true, true_and, and_self, Option.some.injEq, Prod.mk.injEq, if_tt, if_ff, reduceIte, reduceCtorEq, not_true_eq_false, not_false_eq_true, Nat.reduceAdd, Nat.reduceMul, Nat.reduceSub, Nat.reduceLT, Nat.reduceLeDiff, Nat.reduceEqDiff, false_implies, true_implies, implies_true, a1, a4, hbo, hm.1]
  have h2 : OU (pI (pI (pR σ 324 a (some x)) 325 a (nI k)) 326 a (nI g.toNat)) a c (some x) k g ln ask kp tp pos fg := by
    refine ⟨a1, ?_, a3, ?_, a5.ag (((Ag.pR (by omega)).tr (Ag.pI (by omega))).tr (Ag.pI (by omega))) (((Ag.pR (by omega)).tr (Ag.pI (by omega))).tr (Ag.pI (by omega))), ?_, a7, ?_, ?_, ?_, hk1, ?_, ?_, a14, ?_, a16, ?_, a18, a19, ?_, a21, a22, a23⟩
    all_goals (simp (disch := omega) only [bs_pI, cc_pI, cs_pI, sh_pI, gR_pI, eI_pI, eR_pI, eL_pI, bs_pR, cc_pR, cs_pR, sh_pR, gI_pR, eI_pR, eR_pR, eL_pR, bs_uI, cc_uI, cs_uI, sh_uI, gI_uI, gR_uI, eR_uI, eL_uI, bs_uR, cc_uR, cs_uR, sh_uR, gI_uR, gR_uR, eI_uR, eL_uR, bs_uL, cc_uL, cs_uL, sh_uL, gI_uL, gR_uL, eI_uL, eR_uL, gI_s, gI_d, gR_s, gR_d, eI_s, eI_d, eI_e, eR_s, eR_d, eR_e, eL_s, eL_d, bs_bump, cc_bump, cs_bump, sh_bump, gI_bump, gR_bump, eI_bump, eR_bump, eL_bump]; try assumption)
  refine c_Message_writeOn (by omega) hm1 h2.2.2.2.2.1 (by omega) (fun σ2 g2 f2 => ?_)
  simp only [kV_v]
  obtain ⟨b1, b2, b3, b4, b5, b6, b7, b8, b9, b10, b11, b12, b13, b14, b15, b16, b17, b18, b19, b20, b21, b22, b23⟩ := h2
  have g0 := f2.ag (q := a) (by unfold tP; omega)
  have g3 := f2.ag (q := a + 3) (by unfold tP; omega)
  have g4 := f2.ag (q := a + 4) (by unfold tP; omega)
  have h3 : OU σ2 a c (some x) k g ln ask kp (tape m k g) pos fg := ⟨by rw [g0.1]; exact b1, by rw [g0.2.1]; exact b2, b3, by rw [g0.2.2.1]; exact b4, g2, by rw [g0.2.1]; exact b6, b7, by rw [g0.2.1]; exact b8, by rw [g0.2.2.1]; exact b9, by rw [g0.2.1]; exact b10, b11, by rw [g0.2.1]; exact b12, by rw [g0.2.1]; exact b13, b14, by rw [g0.2.2.1]; exact b15, by rw [g3.1]; exact b16, by rw [g0.2.1]; exact b17, b18, fun i hi => by rw [g3.2.2.2.2.1]; exact b19 i hi, by rw [g0.2.2.1]; exact b20, by rw [g4.1]; exact b21, b22, fun i hi => by rw [g4.2.2.2.2.1]; exact b23 i hi⟩
  refine ⟨h3.1, c_Outlet_beginAnew h3 (fun σ3 g3 f3 => ?_)⟩
  simp only [kV_v]
  exact hk σ3 g3 ((f1.tr (f2.mo (fun q hq => by unfold tP at hq; unfold oP; omega))).tr f3)
theorem fI_sent {k : Nat} (h1 : 1 ≤ k) : fI (k + 2) = nI k := by unfold fI; rw [if_neg (by omega), if_neg (by omega), if_neg (by omega)]; rfl
theorem startsAsked_loop {x0 : Nat} {rest : List Nat} {σ0 : PH} {k : Nat} {m : MS} (h1 : 1 ≤ k) (hk1 : k ≤ 999) (hx : x0 + 5 ≤ a ∨ a + 5 ≤ x0) (hm : ME σ0 x0 m) (hF : m.2.2.2 c = k + 2) (hr : ∀ x ∈ rest, sh σ0 x = (1, 6)) (hl : rest.length ≤ 2) (hk : ∀ σ', OU σ' a c (some x0) k true ln rest kp (tape m k true) 0 false → Fr (oP a) σ0 σ' → K (.inl (some (.int (nI 1)))) σ') : ∀ (j i : Nat) (σ : PH), i + j = rest.length → Fr (oP a) σ0 σ → (sh σ a = (1, 5) ∧ gI σ 320 a = nI c ∧ c < 8 ∧ gR σ 321 a = some (a + 1) ∧ TX σ (a + 1) 68 tp ∧ gI σ 322 a = nI pos ∧ pos ≤ 100 ∧ gI σ 323 a = nI fg.toNat ∧ gR σ 324 a = cur ∧ gI σ 325 a = nI n ∧ n ≤ 999 ∧ gI σ 326 a = nI ag.toNat ∧ gI σ 327 a = nI ln ∧ ln ≤ 999 ∧ gR σ 328 a = some (a + 3) ∧ sh σ (a + 3) = (7, 3) ∧ gI σ 329 a = nI rest.length ∧ (∀ i', i' < i → eR σ (a + 3) i' = rest[i']?) ∧ (∀ i', i ≤ i' → i' < rest.length → eR σ (a + 3) (i' + 1) = rest[i']?) ∧ gR σ 330 a = some (a + 4) ∧ sh σ (a + 4) = (7, 3) ∧ kp.length ≤ 3 ∧ (∀ i, i < 3 → eR σ (a + 4) i = kp[i]?)) → PW (d + 4) M_Outlet_startsAsked 32 [.ref a, va_rf (some x0), .int (nI i)] [] σ K := by
  intro j
  induction j with
  | zero =>
    intro i σ hi hf ⟨a1, a2, a3, a4, a5, a6, a7, a8, a9, a10, a11, a12, a13, a14, a15, a16, a17, a18, a19, a20, a21, a22, a23⟩
    have hm' := hm.ag (fun q h1 h2 => hf.ag (q := q) (by unfold oP; omega))
    obtain ⟨b1, b2, b3, b4, b5, b6, b7, b8, b9, b10, b11, b12, b13, b14, b15⟩ := hm'
    obtain ⟨e, hb⟩ := b14 c a3
    rw [hF, fI_sent h1] at e
    refine e_Outlet_startsAsked_32 a (some x0) _ ?_
    simp (disch := omega) only [bs_pI, cc_pI, cs_pI, sh_pI, gR_pI, eI_pI, eR_pI, eL_pI, bs_pR, cc_pR, cs_pR, sh_pR, gI_pR, eI_pR, eR_pR, eL_pR, bs_uI, cc_uI, cs_uI, sh_uI, gI_uI, gR_uI, eR_uI, eL_uI, bs_uR, cc_uR, cs_uR, sh_uR, gI_uR, gR_uR, eI_uR, eL_uR, bs_uL, cc_uL, cs_uL, sh_uL, gI_uL, gR_uL, eI_uL, eR_uL, gI_s, gI_d, gR_s, gR_d, eI_s, eI_d, eI_e, eR_s, eR_d, eR_e, eL_s, eL_d, bs_bump, cc_bump, cs_bump, sh_bump, gI_bump, gR_bump, eI_bump, eR_bump, eL_bump, l_0, l_1, l_2, l_3, l_4, l_5, l_6, l_7, l_8, l_9, l_10, l_11, l_12, l_13, l_14, l_15, l_16, l_17, l_18, l_19, l_20, l_21, l_22, l_23, l_24, l_25, l_26, l_27, l_28, l_29, l_30, l_31, l_32, l_33, l_34, l_35, l_36, l_37, l_38, l_39, l_40, l_41, l_42, l_43, l_44, l_45, l_46, l_47, l_48, l_49, l_50, l_51, l_52, l_53, l_54, l_55, l_56, l_57, l_58, l_59, l_60, l_61, l_62, l_63, l_64, l_65, l_66, l_67, l_68, l_69, l_70, l_71, l_72, l_73, l_74, l_75, l_76, l_77, l_78, l_79, l_80, l_81, l_82, l_83, l_84, l_85, l_86, l_87, l_88, l_89, l_90, l_91, l_92, l_93, l_94, l_95, l_96, l_97, l_98, l_99, l_100, l_101, l_102, l_103, l_104, l_105, l_106, l_107, l_108, l_109, l_110, l_111, l_112, l_113, l_114, l_115, l_116, l_117, l_118, l_119, l_120, l_121, l_122, l_123, l_124, l_125, l_126, l_127, l_128, l_129, l_130, l_256, l_512, l_676, l_704, l_999, l_1000, l_4096, l_17576, l_32768, l_65535, l_456975, l_456976, l_m1, l_m2, in_iff, eq_m1, m1_eq, m1_lt, m1_le, le_m1, lt_m1, eq_m2, m2_m1, m1_m2, add_m1, m1_add, sub_n, mul_n, add_n, bo_n0, bo_n1, ch_n, lt_n, le_n, eq_n, ix_n, i2c_n, rem_n, div_n, kI_i, kI_x, kV_v, kV_x, kR_r, kR_n, kR_x, kHI_i, kHI_0, kHI_1, kHV_v, kHV_0, kHV_1, va_s, va_n, exists_eq_left', exists_eq_left, forall_eq, forall_eq', and_true, true_and, and_self, Option.some.injEq, Prod.mk.injEq, if_tt, if_ff, reduceIte, reduceCtorEq, not_true_eq_false, not_false_eq_true, Nat.reduceAdd, Nat.reduceMul, Nat.reduceSub, Nat.reduceLT, Nat.reduceLeDiff, Nat.reduceEqDiff, false_implies, true_implies, implies_true, a1, a17, b1, b6, b7, a2, e]
    rw [if_pos (by omega)]
    have h0 : OU σ a c cur n ag ln rest kp tp pos fg := ⟨a1, a2, a3, a4, a5, a6, a7, a8, a9, a10, a11, a12, a13, a14, a15, a16, a17, by omega, fun q hq => a18 q (by omega), a20, a21, a22, a23⟩
    refine ⟨a3, c_Outlet_start (g := true) h0 hk1 (hm.ag (fun q h1 h2 => hf.ag (q := q) (by unfold oP; omega))) hx (fun σ' g1 f1 => ?_)⟩
    simp only [kV_v]
    exact hk σ' g1 (hf.tr f1)
  | succ j ih =>
    intro i σ hi hf ⟨a1, a2, a3, a4, a5, a6, a7, a8, a9, a10, a11, a12, a13, a14, a15, a16, a17, a18, a19, a20, a21, a22, a23⟩
    refine e_Outlet_startsAsked_32 a (some x0) _ ?_
    have hlt : i < rest.length := by omega
    simp (disch := omega) only [bs_pI, cc_pI, cs_pI, sh_pI, gR_pI, eI_pI, eR_pI, eL_pI, bs_pR, cc_pR, cs_pR, sh_pR, gI_pR, eI_pR, eR_pR, eL_pR, bs_uI, cc_uI, cs_uI, sh_uI, gI_uI, gR_uI, eR_uI, eL_uI, bs_uR, cc_uR, cs_uR, sh_uR, gI_uR, gR_uR, eI_uR, eL_uR, bs_uL, cc_uL, cs_uL, sh_uL, gI_uL, gR_uL, eI_uL, eR_uL, gI_s, gI_d, gR_s, gR_d, eI_s, eI_d, eI_e, eR_s, eR_d, eR_e, eL_s, eL_d, bs_bump, cc_bump, cs_bump, sh_bump, gI_bump, gR_bump, eI_bump, eR_bump, eL_bump, l_0, l_1, l_2, l_3, l_4, l_5, l_6, l_7, l_8, l_9, l_10, l_11, l_12, l_13, l_14, l_15, l_16, l_17, l_18, l_19, l_20, l_21, l_22, l_23, l_24, l_25, l_26, l_27, l_28, l_29, l_30, l_31, l_32, l_33, l_34, l_35, l_36, l_37, l_38, l_39, l_40, l_41, l_42, l_43, l_44, l_45, l_46, l_47, l_48, l_49, l_50, l_51, l_52, l_53, l_54, l_55, l_56, l_57, l_58, l_59, l_60, l_61, l_62, l_63, l_64, l_65, l_66, l_67, l_68, l_69, l_70, l_71, l_72, l_73, l_74, l_75, l_76, l_77, l_78, l_79, l_80, l_81, l_82, l_83, l_84, l_85, l_86, l_87, l_88, l_89, l_90, l_91, l_92, l_93, l_94, l_95, l_96, l_97, l_98, l_99, l_100, l_101, l_102, l_103, l_104, l_105, l_106, l_107, l_108, l_109, l_110, l_111, l_112, l_113, l_114, l_115, l_116, l_117, l_118, l_119, l_120, l_121, l_122, l_123, l_124, l_125, l_126, l_127, l_128, l_129, l_130, l_256, l_512, l_676, l_704, l_999, l_1000, l_4096, l_17576, l_32768, l_65535, l_456975, l_456976, l_m1, l_m2, in_iff, eq_m1, m1_eq, m1_lt, m1_le, le_m1, lt_m1, eq_m2, m2_m1, m1_m2, add_m1, m1_add, sub_n, mul_n, add_n, bo_n0, bo_n1, ch_n, lt_n, le_n, eq_n, ix_n, i2c_n, rem_n, div_n, kI_i, kI_x, kV_v, kV_x, kR_r, kR_n, kR_x, kHI_i, kHI_0, kHI_1, kHV_v, kHV_0, kHV_1, va_s, va_n, exists_eq_left', exists_eq_left, forall_eq, forall_eq', and_true, true_and, and_self, Option.some.injEq, Prod.mk.injEq, if_tt, if_ff, reduceIte, reduceCtorEq, not_true_eq_false, not_false_eq_true, Nat.reduceAdd, Nat.reduceMul, Nat.reduceSub, Nat.reduceLT, Nat.reduceLeDiff, Nat.reduceEqDiff, false_implies, true_implies, implies_true, a1, a15, a16, a17]
    rw [if_neg (by omega), a19 i (by omega) hlt, List.getElem?_eq_getElem hlt]
    simp only [kI_i, kI_x, kV_v, kV_x, kR_r, kR_n, kR_x, kHI_i, kHI_0, kHI_1, kHV_v, kHV_0, kHV_1, va_s, va_n, exists_eq_left', exists_eq_left, forall_eq, forall_eq', and_true, true_and, and_self, Option.some.injEq, Prod.mk.injEq, if_tt, if_ff, reduceIte, reduceCtorEq, not_true_eq_false, not_false_eq_true, Nat.reduceAdd, Nat.reduceMul, Nat.reduceSub, Nat.reduceLT, Nat.reduceLeDiff, Nat.reduceEqDiff, false_implies, true_implies, implies_true]
    refine ⟨by omega, by omega, by rw [hf.sh]; exact hr _ (List.getElem_mem hlt), ih (i + 1) _ (by omega) (hf.tr (Fr.uR (by unfold oP; omega))) ⟨a1, a2, a3, a4, a5.ag (Ag.uR (by omega)) (Ag.uR (by omega)), a6, a7, a8, a9, a10, a11, a12, a13, a14, a15, a16, a17, fun q hq => ?_, fun q h3 h4 => ?_, a20, a21, a22, fun q hq => ?_⟩⟩
    · rw [eR_uR]
      by_cases hqi : q = i
      · rw [if_pos ⟨rfl, hqi⟩, hqi, List.getElem?_eq_getElem hlt]
      · rw [if_neg (fun z => hqi z.2)]; exact a18 q (by omega)
    · rw [eR_uR, if_neg (by omega)]; exact a19 q (by omega) h4
    · rw [eR_uR, if_neg (by omega)]; exact a23 q hq
theorem c_Outlet_startsAsked {mm : Nat → MS} (h : OU σ a c cur n ag ln ask kp tp pos fg) (hm : ∀ x ∈ ask, ME σ x (mm x) ∧ (x + 5 ≤ a ∨ a + 5 ≤ x) ∧ ∃ k, 1 ≤ k ∧ k ≤ 999 ∧ (mm x).2.2.2 c = k + 2) (hk0 : ask = [] → K (.inl (some (.int (nI 0)))) σ) (hk : ∀ x0 rest σ', ask = x0 :: rest → OU σ' a c (some x0) ((mm x0).2.2.2 c - 2) true ln rest kp (tape (mm x0) ((mm x0).2.2.2 c - 2) true) 0 false → Fr (oP a) σ σ' → K (.inl (some (.int (nI 1)))) σ') : PW (d + 4) M_Outlet_startsAsked 0 [.ref a, uu, uu] [] σ K := by
  obtain ⟨a1, a2, a3, a4, a5, a6, a7, a8, a9, a10, a11, a12, a13, a14, a15, a16, a17, a18, a19, a20, a21, a22, a23⟩ := h
  refine e_Outlet_startsAsked_0 a ?_
  simp (disch := omega) only [bs_pI, cc_pI, cs_pI, sh_pI, gR_pI, eI_pI, eR_pI, eL_pI, bs_pR, cc_pR, cs_pR, sh_pR, gI_pR, eI_pR, eR_pR, eL_pR, bs_uI, cc_uI, cs_uI, sh_uI, gI_uI, gR_uI, eR_uI, eL_uI, bs_uR, cc_uR, cs_uR, sh_uR, gI_uR, gR_uR, eI_uR, eL_uR, bs_uL, cc_uL, cs_uL, sh_uL, gI_uL, gR_uL, eI_uL, eR_uL, gI_s, gI_d, gR_s, gR_d, eI_s, eI_d, eI_e, eR_s, eR_d, eR_e, eL_s, eL_d, bs_bump, cc_bump, cs_bump, sh_bump, gI_bump, gR_bump, eI_bump, eR_bump, eL_bump, l_0, l_1, l_2, l_3, l_4, l_5, l_6, l_7, l_8, l_9, l_10, l_11, l_12, l_13, l_14, l_15, l_16, l_17, l_18, l_19, l_20, l_21, l_22, l_23, l_24, l_25, l_26, l_27, l_28, l_29, l_30, l_31, l_32, l_33, l_34, l_35, l_36, l_37, l_38, l_39, l_40, l_41, l_42, l_43, l_44, l_45, l_46, l_47, l_48, l_49, l_50, l_51, l_52, l_53, l_54, l_55, l_56, l_57, l_58, l_59, l_60, l_61, l_62, l_63, l_64, l_65, l_66, l_67, l_68, l_69, l_70, l_71, l_72, l_73, l_74, l_75, l_76, l_77, l_78, l_79, l_80, l_81, l_82, l_83, l_84, l_85, l_86, l_87, l_88, l_89, l_90, l_91, l_92, l_93, l_94, l_95, l_96, l_97, l_98, l_99, l_100, l_101, l_102, l_103, l_104, l_105, l_106, l_107, l_108, l_109, l_110, l_111, l_112, l_113, l_114, l_115, l_116, l_117, l_118, l_119, l_120, l_121, l_122, l_123, l_124, l_125, l_126, l_127, l_128, l_129, l_130, l_256, l_512, l_676, l_704, l_999, l_1000, l_4096, l_17576, l_32768, l_65535, l_456975, l_456976, l_m1, l_m2, in_iff, eq_m1, m1_eq, m1_lt, m1_le, le_m1, lt_m1, eq_m2, m2_m1, m1_m2, add_m1, m1_add, sub_n, mul_n, add_n, bo_n0, bo_n1, ch_n, lt_n, le_n, eq_n, ix_n, i2c_n, rem_n, div_n, kI_i, kI_x, kV_v, kV_x, kR_r, kR_n, kR_x, kHI_i, kHI_0, kHI_1, kHV_v, kHV_0, kHV_1, va_s, va_n, exists_eq_left', exists_eq_left, forall_eq, forall_eq', and_true, true_and, and_self, Option.some.injEq, Prod.mk.injEq, if_tt, if_ff, reduceIte, reduceCtorEq, not_true_eq_false, not_false_eq_true, Nat.reduceAdd, Nat.reduceMul, Nat.reduceSub, Nat.reduceLT, Nat.reduceLeDiff, Nat.reduceEqDiff, false_implies, true_implies, implies_true, a1, a15, a16, a17]
  cases hask : ask with
  | nil =>
    rw [if_pos (by simp)]
    exact hk0 hask
  | cons x0 rest =>
    rw [hask] at a17 a18 a19
    rw [if_neg (by simp), a19 0 (by simp)]
    rw [hask] at hm
    obtain ⟨h1, h2, k, h3, h4, h5⟩ := hm x0 (List.mem_cons_self ..)
    have e : (mm x0).2.2.2 c - 2 = k := by omega
    simp only [List.length_cons] at a18
    simp (disch := omega) only [bs_pI, cc_pI, cs_pI, sh_pI, gR_pI, eI_pI, eR_pI, eL_pI, bs_pR, cc_pR, cs_pR, sh_pR, gI_pR, eI_pR, eR_pR, eL_pR, bs_uI, cc_uI, cs_uI, sh_uI, gI_uI, gR_uI, eR_uI, eL_uI, bs_uR, cc_uR, cs_uR, sh_uR, gI_uR, gR_uR, eI_uR, eL_uR, bs_uL, cc_uL, cs_uL, sh_uL, gI_uL, gR_uL, eI_uL, eR_uL, gI_s, gI_d, gR_s, gR_d, eI_s, eI_d, eI_e, eR_s, eR_d, eR_e, eL_s, eL_d, bs_bump, cc_bump, cs_bump, sh_bump, gI_bump, gR_bump, eI_bump, eR_bump, eL_bump, l_0, l_1, l_2, l_3, l_4, l_5, l_6, l_7, l_8, l_9, l_10, l_11, l_12, l_13, l_14, l_15, l_16, l_17, l_18, l_19, l_20, l_21, l_22, l_23, l_24, l_25, l_26, l_27, l_28, l_29, l_30, l_31, l_32, l_33, l_34, l_35, l_36, l_37, l_38, l_39, l_40, l_41, l_42, l_43, l_44, l_45, l_46, l_47, l_48, l_49, l_50, l_51, l_52, l_53, l_54, l_55, l_56, l_57, l_58, l_59, l_60, l_61, l_62, l_63, l_64, l_65, l_66, l_67, l_68, l_69, l_70, l_71, l_72, l_73, l_74, l_75, l_76, l_77, l_78, l_79, l_80, l_81, l_82, l_83, l_84, l_85, l_86, l_87, l_88, l_89, l_90, l_91, l_92, l_93, l_94, l_95, l_96, l_97, l_98, l_99, l_100, l_101, l_102, l_103, l_104, l_105, l_106, l_107, l_108, l_109, l_110, l_111, l_112, l_113, l_114, l_115, l_116, l_117, l_118, l_119, l_120, l_121, l_122, l_123, l_124, l_125, l_126, l_127, l_128, l_129, l_130, l_256, l_512, l_676, l_704, l_999, l_1000, l_4096, l_17576, l_32768, l_65535, l_456975, l_456976, l_m1, l_m2, in_iff, eq_m1, m1_eq, m1_lt, m1_le, le_m1, lt_m1, eq_m2, m2_m1, m1_m2, add_m1, m1_add, sub_n, mul_n, add_n, bo_n0, bo_n1, ch_n, lt_n, le_n, eq_n, ix_n, i2c_n, rem_n, div_n, kI_i, kI_x, kV_v, kV_x, kR_r, kR_n, kR_x, kHI_i, kHI_0, kHI_1, kHV_v, kHV_0, kHV_1, va_s, va_n, exists_eq_left', exists_eq_left, forall_eq, forall_eq', and_true, true_and, and_self, Option.some.injEq, Prod.mk.injEq, if_tt, if_ff, reduceIte, reduceCtorEq, not_true_eq_false, not_false_eq_true, Nat.reduceAdd, Nat.reduceMul, Nat.reduceSub, Nat.reduceLT, Nat.reduceLeDiff, Nat.reduceEqDiff, false_implies, true_implies, implies_true, List.getElem?_cons_zero, List.length_cons]
    have hh := startsAsked_loop (d := d) (K := K) (cur := cur) (n := n) (ag := ag) (tp := tp) (pos := pos) (fg := fg) (σ0 := pI σ 329 a (nI (rest.length + 1 - 1))) (ln := ln) (kp := kp) (rest := rest) h3 h4 h2 (h1.ag (fun q z1 z2 => Ag.pI (by omega))) h5 (fun x hx => by rw [sh_pI]; exact (hm x (List.mem_cons_of_mem _ hx)).1.1) (by omega) (fun σ' g1 f1 => hk x0 rest σ' hask (by rw [e]; exact g1) ((Fr.pI (by unfold oP; omega)).tr f1)) rest.length 0 _ (by omega) Fr.rf ⟨a1, ?_, a3, a4, a5.ag (Ag.pI (by omega)) (Ag.pI (by omega)), ?_, a7, ?_, a9, ?_, a11, ?_, ?_, a14, a15, a16, ?_, fun q hq => absurd hq (Nat.not_lt_zero q), fun q h6 h7 => ?_, a20, a21, a22, a23⟩
    · exact hh
    any_goals (simp (disch := omega) only [bs_pI, cc_pI, cs_pI, sh_pI, gR_pI, eI_pI, eR_pI, eL_pI, bs_pR, cc_pR, cs_pR, sh_pR, gI_pR, eI_pR, eR_pR, eL_pR, bs_uI, cc_uI, cs_uI, sh_uI, gI_uI, gR_uI, eR_uI, eL_uI, bs_uR, cc_uR, cs_uR, sh_uR, gI_uR, gR_uR, eI_uR, eL_uR, bs_uL, cc_uL, cs_uL, sh_uL, gI_uL, gR_uL, eI_uL, eR_uL, gI_s, gI_d, gR_s, gR_d, eI_s, eI_d, eI_e, eR_s, eR_d, eR_e, eL_s, eL_d, bs_bump, cc_bump, cs_bump, sh_bump, gI_bump, gR_bump, eI_bump, eR_bump, eL_bump]; try first | assumption | (simp; done))
    · rw [a19 (q + 1) (by simp; omega), List.getElem?_cons_succ]
theorem c_Outlet_startEntry {x : Nat} {m : MS} (h : OU σ a c cur n ag ln ask kp tp pos fg) (hm : ME σ x m) (hx : x + 5 ≤ a ∨ a + 5 ≤ x) (hk : ∀ σ', OU σ' a c (some x) (nb ln) false (nb ln) ask kp (tape m (nb ln) false) 0 false → ME σ' x (m.1, m.2.1, m.2.2.1, fun y => if y = c then 2 else m.2.2.2 y) → Fr (fun q => oP a q ∨ mP x q) σ σ' → K (.inl none) σ') : PW (d + 4) M_Outlet_startEntry 0 [.ref a, va_rf (some x)] [] σ K := by
  have h0 := h
  obtain ⟨a1, a2, a3, a4, a5, a6, a7, a8, a9, a10, a11, a12, a13, a14, a15, a16, a17, a18, a19, a20, a21, a22, a23⟩ := h
  have hnb := @nb_in ln
  refine e_Outlet_startEntry_0 a (some x) ?_
  rw [if_neg (by simp)]
  refine ⟨a1, ?_⟩
  rw [a13]
  refine c_Numbers_numberBehind a14 ?_
  simp (disch := omega) only [bs_pI, cc_pI, cs_pI, sh_pI, gR_pI, eI_pI, eR_pI, eL_pI, bs_pR, cc_pR, cs_pR, sh_pR, gI_pR, eI_pR, eR_pR, eL_pR, bs_uI, cc_uI, cs_uI, sh_uI, gI_uI, gR_uI, eR_uI, eL_uI, bs_uR, cc_uR, cs_uR, sh_uR, gI_uR, gR_uR, eI_uR, eL_uR, bs_uL, cc_uL, cs_uL, sh_uL, gI_uL, gR_uL, eI_uL, eR_uL, gI_s, gI_d, gR_s, gR_d, eI_s, eI_d, eI_e, eR_s, eR_d, eR_e, eL_s, eL_d, bs_bump, cc_bump, cs_bump, sh_bump, gI_bump, gR_bump, eI_bump, eR_bump, eL_bump, l_0, l_1, l_2, l_3, l_4, l_5, l_6, l_7, l_8, l_9, l_10, l_11, l_12, l_13, l_14, l_15, l_16, l_17, l_18, l_19, l_20, l_21, l_22, l_23, l_24, l_25, l_26, l_27, l_28, l_29, l_30, l_31, l_32, l_33, l_34, l_35, l_36, l_37, l_38, l_39, l_40, l_41, l_42, l_43, l_44, l_45, l_46, l_47, l_48, l_49, l_50, l_51, l_52, l_53, l_54, l_55, l_56, l_57, l_58, l_59, l_60, l_61, l_62, l_63, l_64, l_65, l_66, l_67, l_68, l_69, l_70, l_71, l_72, l_73, l_74, l_75, l_76, l_77, l_78, l_79, l_80, l_81, l_82, l_83, l_84, l_85, l_86, l_87, l_88, l_89, l_90, l_91, l_92, l_93, l_94, l_95, l_96, l_97, l_98, l_99, l_100, l_101, l_102, l_103, l_104, l_105, l_106, l_107, l_108, l_109, l_110, l_111, l_112, l_113, l_114, l_115, l_116, l_117, l_118, l_119, l_120, l_121, l_122, l_123, l_124, l_125, l_126, l_127, l_128, l_129, l_130, l_256, l_512, l_676, l_704, l_999, l_1000, l_4096, l_17576, l_32768, l_65535, l_456975, l_456976, l_m1, l_m2, in_iff, eq_m1, m1_eq, m1_lt, m1_le, le_m1, lt_m1, eq_m2, m2_m1, m1_m2, add_m1, m1_add, sub_n, mul_n, add_n, bo_n0, bo_n1, ch_n, lt_n, le_n, eq_n, ix_n, i2c_n, rem_n, div_n, kI_i, kI_x, kV_v, kV_x, kR_r, kR_n, kR_x, kHI_i, kHI_0, kHI_1, kHV_v, kHV_0, kHV_1, va_s, va_n, exists_eq_left', exists_eq_left, forall_eq, forall_eq', and_true, true_and, and_self, Option.some.injEq, Prod.mk.injEq, if_tt, if_ff, reduceIte, reduceCtorEq, not_true_eq_false, not_false_eq_true, Nat.reduceAdd, Nat.reduceMul, Nat.reduceSub, Nat.reduceLT, Nat.reduceLeDiff, Nat.reduceEqDiff, false_implies, true_implies, implies_true, a1, a2, hm.1, hm.2.2.2.2.2.1, hm.2.2.2.2.2.2.1]
  refine ⟨by omega, ?_⟩
  have hm1 : ME (pI σ 327 a (nI (nb ln))) x m := hm.ag (fun q h1 h2 => Ag.pI (by omega))
  have hm2 := hm1.fate (F := 2) a3 (by decide)
  have e2 : uI (pI σ 327 a (nI (nb ln))) (x + 4) c (fI 2) = uI (pI σ 327 a (nI (nb ln))) (x + 4) c (-2) := rfl
  rw [e2] at hm2
  have h2 : OU (uI (pI σ 327 a (nI (nb ln))) (x + 4) c (-2)) a c cur n ag (nb ln) ask kp tp pos fg := by
    refine ⟨a1, ?_, a3, a4, a5.ag ((Ag.pI (by omega)).tr (Ag.uI (by omega))) ((Ag.pI (by omega)).tr (Ag.uI (by omega))), ?_, a7, ?_, a9, ?_, a11, ?_, ?_, hnb.2, a15, a16, ?_, a18, a19, a20, a21, a22, a23⟩
    all_goals (simp (disch := omega) only [bs_pI, cc_pI, cs_pI, sh_pI, gR_pI, eI_pI, eR_pI, eL_pI, bs_pR, cc_pR, cs_pR, sh_pR, gI_pR, eI_pR, eR_pR, eL_pR, bs_uI, cc_uI, cs_uI, sh_uI, gI_uI, gR_uI, eR_uI, eL_uI, bs_uR, cc_uR, cs_uR, sh_uR, gI_uR, gR_uR, eI_uR, eL_uR, bs_uL, cc_uL, cs_uL, sh_uL, gI_uL, gR_uL, eI_uL, eR_uL, gI_s, gI_d, gR_s, gR_d, eI_s, eI_d, eI_e, eR_s, eR_d, eR_e, eL_s, eL_d, bs_bump, cc_bump, cs_bump, sh_bump, gI_bump, gR_bump, eI_bump, eR_bump, eL_bump]; try assumption)
  have et : tape (m.1, m.2.1, m.2.2.1, fun y => if y = c then 2 else m.2.2.2 y) (nb ln) false = tape m (nb ln) false := rfl
  refine c_Outlet_start (g := false) h2 hnb.2 hm2 hx (fun σ' g1 f1 => ?_)
  simp only [kV_v]
  rw [et] at g1
  exact hk σ' g1 (hm2.ag (fun q h1 h2 => f1.ag (by unfold oP; omega))) (((Fr.pI (Or.inl (by unfold oP; omega))).tr (Fr.uI (Or.inr (by unfold mP; omega)))).tr (f1.mo (fun q hq => Or.inl hq)))
theorem c_Outlet_startNone (hk : K (.inl none) σ) : PW (d + 1) M_Outlet_startEntry 0 [.ref a, va_rf none] [] σ K := by
  refine e_Outlet_startEntry_0 a none ?_
  rw [if_pos rfl]; exact hk
theorem c_Outlet_finish_again (h : OU σ a c cur n true ln ask kp tp pos fg) (hk : ∀ σ', OU σ' a c none n true ln ask kp tp pos fg → Fr (oP a) σ σ' → K (.inl none) σ') : PW d M_Outlet_finish 0 [.ref a, uu] [] σ K := by
  obtain ⟨a1, a2, a3, a4, a5, a6, a7, a8, a9, a10, a11, a12, a13, a14, a15, a16, a17, a18, a19, a20, a21, a22, a23⟩ := h
  refine e_Outlet_finish_0 a ⟨a1, ?_⟩
  rw [a12, if_neg (by decide)]
  intro σ1 e1
  subst e1
  refine hk _ ⟨a1, a2, a3, ?_, a5.ag (Ag.pR (by omega)) (Ag.pR (by omega)), a6, a7, a8, ?_, a10, a11, a12, a13, a14, ?_, a16, a17, a18, a19, ?_, a21, a22, a23⟩ (Fr.pR (by unfold oP; omega))
  all_goals (simp (disch := omega) only [bs_pI, cc_pI, cs_pI, sh_pI, gR_pI, eI_pI, eR_pI, eL_pI, bs_pR, cc_pR, cs_pR, sh_pR, gI_pR, eI_pR, eR_pR, eL_pR, bs_uI, cc_uI, cs_uI, sh_uI, gI_uI, gR_uI, eR_uI, eL_uI, bs_uR, cc_uR, cs_uR, sh_uR, gI_uR, gR_uR, eI_uR, eL_uR, bs_uL, cc_uL, cs_uL, sh_uL, gI_uL, gR_uL, eI_uL, eR_uL, gI_s, gI_d, gR_s, gR_d, eI_s, eI_d, eI_e, eR_s, eR_d, eR_e, eL_s, eL_d, bs_bump, cc_bump, cs_bump, sh_bump, gI_bump, gR_bump, eI_bump, eR_bump, eL_bump]; try assumption)
theorem c_Outlet_finish_first {x : Nat} {m : MS} (h : OU σ a c (some x) n false ln ask kp tp pos fg) (hn : 1 ≤ n) (hm : ME σ x m) (hx : x + 5 ≤ a ∨ a + 5 ≤ x) (hkm : ∀ y ∈ kp, sh σ y = (1, 6)) (hk : ∀ σ', OU σ' a c none n false ln ask ((x :: kp).take 3) tp pos fg → ME σ' x (m.1, m.2.1, m.2.2.1, fun y => if y = c then n + 2 else m.2.2.2 y) → Fr (fun q => oP a q ∨ mP x q) σ σ' → K (.inl none) σ') : PW d M_Outlet_finish 0 [.ref a, uu] [] σ K := by
  obtain ⟨a1, a2, a3, a4, a5, a6, a7, a8, a9, a10, a11, a12, a13, a14, a15, a16, a17, a18, a19, a20, a21, a22, a23⟩ := h
  have hkm' : ∀ i b, kp[i]? = some b → sh σ b = (1, 6) := fun i b hb => hkm b (List.mem_of_getElem? hb)
  refine e_Outlet_finish_0 a ⟨a1, ?_⟩
  rw [a12, if_pos (by decide), a9, if_neg (by simp)]
  refine ⟨x, rfl, hm.1, x + 4, hm.2.2.2.2.2.1, 8, hm.2.2.2.2.2.2.1, by rw [a2]; exact in_n a3 (by decide), fun σ1 e1 => ?_⟩
  rw [a2, ix_n (by omega), a10, ← fI_sent hn] at e1
  have hm1 := hm.fate (F := n + 2) a3 (by omega)
  rw [← e1] at hm1
  have f1 : Fr (fun q => oP a q ∨ mP x q) σ σ1 := by rw [e1]; exact Fr.uI (Or.inr (by unfold mP; omega))
  have r1 : ∀ q j, eR σ1 q j = eR σ q j := fun q j => by rw [e1]; rfl
  have s1 : ∀ q, sh σ1 q = sh σ q := fun q => by rw [e1]; rfl
  have gR1 : ∀ f q, gR σ1 f q = gR σ f q := fun f q => by rw [e1]; rfl
  have gI1 : ∀ f q, gI σ1 f q = gI σ f q := fun f q => by rw [e1]; rfl
  have t1 : TX σ1 (a + 1) 68 tp := by rw [e1]; exact a5.ag (Ag.uI (by omega)) (Ag.uI (by omega))
  clear e1
  refine e_Outlet_finish_32 a _ ?_
  rw [if_neg (by decide)]
  refine ⟨by rw [s1]; exact a1, a + 4, by rw [gR1]; exact a20, 3, by rw [s1]; exact a21, by unfold vp_in; decide, by unfold vp_in; decide, fun b hb => ?_, fun σ2 e2 => ?_⟩
  · rw [s1]; rw [r1] at hb; exact hkm' 1 b (by rw [← a23 1 (by decide)]; exact hb)
  refine e_Outlet_finish_32 a _ ?_
  rw [if_neg (by decide)]
  have s2 : ∀ q, sh σ2 q = sh σ q := fun q => by rw [e2]; exact s1 q
  have gR2 : ∀ f q, gR σ2 f q = gR σ f q := fun f q => by rw [e2]; exact gR1 f q
  have gI2 : ∀ f q, gI σ2 f q = gI σ f q := fun f q => by rw [e2]; exact gI1 f q
  have r2 : ∀ q j, eR σ2 q j = if q = a + 4 ∧ j = 2 then eR σ (a + 4) 1 else eR σ q j := fun q j => by
    rw [e2, eR_uR, r1, r1]; rfl
  refine ⟨by rw [s2]; exact a1, a + 4, by rw [gR2]; exact a20, 3, by rw [s2]; exact a21, by unfold vp_in; decide, by unfold vp_in; decide, fun b hb => ?_, fun σ3 e3 => ?_⟩
  · rw [s2]; rw [r2, if_neg (by intro q; exact absurd q.2 (by decide))] at hb; exact hkm' 0 b (by rw [← a23 0 (by decide)]; exact hb)
  refine e_Outlet_finish_32 a _ ?_
  rw [if_pos (by decide)]
  have s3 : ∀ q, sh σ3 q = sh σ q := fun q => by rw [e3]; exact s2 q
  have gR3 : ∀ f q, gR σ3 f q = gR σ f q := fun f q => by rw [e3]; exact gR2 f q
  have gI3 : ∀ f q, gI σ3 f q = gI σ f q := fun f q => by rw [e3]; exact gI2 f q
  have r3 : ∀ q j, eR σ3 q j = if q = a + 4 ∧ j = 1 then eR σ (a + 4) 0 else if q = a + 4 ∧ j = 2 then eR σ (a + 4) 1 else eR σ q j := fun q j => by
    rw [e3, show ix (2 + -1) = 1 from by decide, show ix (2 + -1 - 1) = 0 from by decide, eR_uR, r2, r2, if_neg (show ¬ (a + 4 = a + 4 ∧ 0 = 2) by omega)]
  refine ⟨by rw [s3]; exact a1, a + 4, by rw [gR3]; exact a20, 3, by rw [s3]; exact a21, by unfold vp_in; decide, fun b hb => ?_, fun σ4 e4 => ⟨by rw [e4, sh_uR, s3]; exact a1, fun σ5 e5 => ?_⟩⟩
  · rw [gR3, a9] at hb; rw [s3, ← Option.some.inj hb]; exact hm.1
  have ff : Fr (fun q => oP a q ∨ mP x q) σ σ5 := by
    rw [e5, e4, e3, e2]
    exact ((((f1.tr (Fr.uR (Or.inl (by unfold oP; omega)))).tr (Fr.uR (Or.inl (by unfold oP; omega)))).tr (Fr.uR (Or.inl (by unfold oP; omega)))).tr (Fr.pR (Or.inl (by unfold oP; omega))))
  have fr1 : Fr (fun q => q = a ∨ q = a + 4) σ1 σ5 := by
    rw [e5, e4, e3, e2]
    exact ((((Fr.uR (Or.inr rfl)).tr (Fr.uR (Or.inr rfl))).tr (Fr.uR (Or.inr rfl))).tr (Fr.pR (Or.inl rfl)))
  have gI5 : ∀ f q, gI σ5 f q = gI σ f q := fun f q => by rw [e5, e4]; exact gI3 f q
  have gR5 : ∀ f q, f ≠ 324 → gR σ5 f q = gR σ f q := fun f q hf => by rw [e5, gR_pR, if_neg (fun z => hf z.1), e4]; exact gR3 f q
  have r5 : ∀ q j, eR σ5 q j = if q = a + 4 ∧ j = 0 then some x else if q = a + 4 ∧ j = 1 then eR σ (a + 4) 0 else if q = a + 4 ∧ j = 2 then eR σ (a + 4) 1 else eR σ q j := fun q j => by
    rw [e5, eR_pR, e4, eR_uR, r3, gR3, a9]; rfl
  refine hk σ5 ⟨by rw [ff.sh]; exact a1, by rw [gI5]; exact a2, a3, by rw [gR5 _ _ (by decide)]; exact a4, t1.ag (fr1.ag (by omega)) (fr1.ag (by omega)), by rw [gI5]; exact a6, a7, by rw [gI5]; exact a8, by rw [e5, gR_s], by rw [gI5]; exact a10, a11, by rw [gI5]; exact a12, by rw [gI5]; exact a13, a14, by rw [gR5 _ _ (by decide)]; exact a15, by rw [ff.sh]; exact a16, by rw [gI5]; exact a17, a18, fun i hi => by rw [r5, if_neg (by omega), if_neg (by omega), if_neg (by omega)]; exact a19 i hi, by rw [gR5 _ _ (by decide)]; exact a20, by rw [ff.sh]; exact a21, by simp; omega, fun i hi => ?_⟩ (hm1.ag (fun q z1 z2 => fr1.ag (by omega))) ff
  rw [r5, List.getElem?_take, if_pos hi]
  rcases (show i = 0 ∨ i = 1 ∨ i = 2 by omega) with q | q | q <;> subst q
  · rw [if_pos ⟨rfl, rfl⟩]; rfl
  · rw [if_neg (by omega), if_pos ⟨rfl, rfl⟩, a23 0 (by decide)]; rfl
  · rw [if_neg (by omega), if_neg (by omega), if_pos ⟨rfl, rfl⟩, a23 1 (by decide)]; rfl
end COutlet
