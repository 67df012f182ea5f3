/-! ===== the reference: faultOfText ===== -/
def ftF (f : Nat) : Prop := f = 745 ∨ (748 ≤ f ∧ f ≤ 751)
theorem hW_Win {xs : List Nat} : Win xs (hW xs) := fun _ hi => hW_in hi
theorem drop_get {W : List (Nat × Nat)} {a : Nat} (h : a < W.length) : W.drop a = W.getD a (0, 0) :: W.drop (a + 1) := by
  rw [List.drop_eq_getElem_cons h, List.getD_eq_getElem?_getD, List.getElem?_eq_getElem h]; rfl
section Mod4
variable {d : Nat} {σ : PH} {K : PO → PH → Prop} {A : Nat} {S : SP} {xs : List Nat}
/-- what faultOfText leaves -/
def FM (σ : PH) (A : Nat) (xs : List Nat) (lg : Bool) : Prop := TM σ A xs ∧ WM σ A (hW xs) ∧ gI σ 751 A = nI (if fle xs < xs.length then fle xs + 1 else xs.length) ∧ (flt xs lg ≠ 1 → gI σ 748 A = nI (hNum xs)) ∧ (flt xs lg = 0 → gI σ 749 A = nI (hPrc xs) ∧ ∃ f, gI σ 750 A = nI f ∧ f ≤ (hW xs).length ∧ hI xs = (hW xs).drop f)
theorem fault_ind {f : Nat} (hz : MZ σ A) (hx : TM σ A xs) (hw : WM σ A (hW xs)) (hk0 : ((hW xs).drop f).all (isI xs) = true → K (.inl (some (.int (nI 0)))) σ) (hk4 : ¬ ((hW xs).drop f).all (isI xs) = true → K (.inl (some (.int (nI 4)))) σ) : ∀ (m k : Nat) (b : Bool), k + m = (hW xs).length → (b = true → (((hW xs).drop f).all (isI xs) = true ↔ ((hW xs).drop k).all (isI xs) = true)) → (b = false → ¬ ((hW xs).drop f).all (isI xs) = true) → PW (d + 2) M_Mod_faultOfText 173 [.ref A, uu, uu, .int (nI b.toNat), .int (nI k)] [] σ K := by
  have w2 := hw.2.1
  intro m
  induction m with
  | zero =>
    intro k b hm hb1 hb2
    refine e_Mod_faultOfText_173 A _ _ ?_
    simp (disch := omega) only [bs_pI, cc_pI, cs_pI, sh_pI, gR_pI, eI_pI, eR_pI, eL_pI, bs_pR, cc_pR, cs_pR, sh_pR, gI_pR, eI_pR, eR_pR, eL_pR, bs_uI, cc_uI, cs_uI, sh_uI, gI_uI, gR_uI, eR_uI, eL_uI, bs_uR, cc_uR, cs_uR, sh_uR, gI_uR, gR_uR, eI_uR, eL_uR, bs_uL, cc_uL, cs_uL, sh_uL, gI_uL, gR_uL, eI_uL, eR_uL, gI_s, gI_d, gR_s, gR_d, eI_s, eI_d, eI_e, eR_s, eR_d, eR_e, eL_s, eL_d, bs_bump, cc_bump, cs_bump, sh_bump, gI_bump, gR_bump, eI_bump, eR_bump, eL_bump, l_0, l_1, l_2, l_3, l_4, l_5, l_6, l_7, l_8, l_9, l_10, l_11, l_12, l_13, l_14, l_15, l_16, l_17, l_18, l_19, l_20, l_21, l_22, l_23, l_24, l_25, l_26, l_27, l_28, l_29, l_30, l_31, l_32, l_33, l_34, l_35, l_36, l_37, l_38, l_39, l_40, l_41, l_42, l_43, l_44, l_45, l_46, l_47, l_48, l_49, l_50, l_51, l_52, l_53, l_54, l_55, l_56, l_57, l_58, l_59, l_60, l_61, l_62, l_63, l_64, l_65, l_66, l_67, l_68, l_69, l_70, l_71, l_72, l_73, l_74, l_75, l_76, l_77, l_78, l_79, l_80, l_81, l_82, l_83, l_84, l_85, l_86, l_87, l_88, l_89, l_90, l_91, l_92, l_93, l_94, l_95, l_96, l_97, l_98, l_99, l_100, l_101, l_102, l_103, l_104, l_105, l_106, l_107, l_108, l_109, l_110, l_111, l_112, l_113, l_114, l_115, l_116, l_117, l_118, l_119, l_120, l_121, l_122, l_123, l_124, l_125, l_126, l_127, l_128, l_129, l_130, l_256, l_512, l_676, l_704, l_999, l_1000, l_4096, l_17576, l_32768, l_65535, l_456975, l_456976, l_m1, l_m2, in_iff, eq_m1, m1_eq, m1_lt, m1_le, le_m1, lt_m1, eq_m2, m2_m1, m1_m2, add_m1, m1_add, sub_n, mul_n, add_n, bo_n0, bo_n1, ch_n, lt_n, le_n, eq_n, ix_n, i2c_n, rem_n, div_n, kI_i, kI_x, kV_v, kV_x, kR_r, kR_n, kR_x, kHI_i, kHI_0, kHI_1, kHV_v, kHV_0, kHV_1, va_s, va_n, exists_eq_left', exists_eq_left, forall_eq, forall_eq', and_true, true_and, and_self, Option.some.injEq, Prod.mk.injEq, if_tt, if_ff, reduceIte, reduceCtorEq, not_true_eq_false, not_false_eq_true, Nat.reduceAdd, Nat.reduceMul, Nat.reduceSub, Nat.reduceLT, Nat.reduceLeDiff, Nat.reduceEqDiff, false_implies, true_implies, implies_true, hz.1, hw.1]
    rw [if_pos (by omega)]
    cases b with
    | false => rw [if_pos (by decide)]; exact hk4 (hb2 rfl)
    | true =>
      rw [if_neg (by decide)]
      refine hk0 ((hb1 rfl).mpr ?_)
      rw [List.drop_eq_nil_of_le (by omega)]; rfl
  | succ m ih =>
    intro k b hm hb1 hb2
    have nxt : ∀ b' : Bool, (b' = true → (((hW xs).drop f).all (isI xs) = true ↔ ((hW xs).drop (k + 1)).all (isI xs) = true)) → (b' = false → ¬ ((hW xs).drop f).all (isI xs) = true) → PW (d + 2) M_Mod_faultOfText 200 [.ref A, uu, uu, uu, .int (nI k)] [.int (nI b'.toNat)] σ K := by
      intro b' q1 q2
      refine e_Mod_faultOfText_200 A _ _ ?_
      rw [nI_1]
      exact ih (k + 1) b' (by omega) q1 q2
    refine e_Mod_faultOfText_173 A _ _ ?_
    simp (disch := omega) only [l_0, l_1, l_2, l_3, l_4, l_5, l_6, l_7, l_8, l_9, l_10, l_11, l_12, l_13, l_14, l_15, l_16, l_17, l_18, l_19, l_20, l_21, l_22, l_23, l_24, l_25, l_26, l_27, l_28, l_29, l_30, l_31, l_32, l_33, l_34, l_35, l_36, l_37, l_38, l_39, l_40, l_41, l_42, l_43, l_44, l_45, l_46, l_47, l_48, l_49, l_50, l_51, l_52, l_53, l_54, l_55, l_56, l_57, l_58, l_59, l_60, l_61, l_62, l_63, l_64, l_65, l_66, l_67, l_68, l_69, l_70, l_71, l_72, l_73, l_74, l_75, l_76, l_77, l_78, l_79, l_80, l_81, l_82, l_83, l_84, l_85, l_86, l_87, l_88, l_89, l_90, l_91, l_92, l_93, l_94, l_95, l_96, l_97, l_98, l_99, l_100, l_101, l_102, l_103, l_104, l_105, l_106, l_107, l_108, l_109, l_110, l_111, l_112, l_113, l_114, l_115, l_116, l_117, l_118, l_119, l_120, l_121, l_122, l_123, l_124, l_125, l_126, l_127, l_128, l_129, l_130, l_256, l_512, l_676, l_704, l_999, l_1000, l_4096, l_17576, l_32768, l_65535, l_456975, l_456976, l_m1, l_m2, hz.1, hw.1, kI_i, kI_x, kV_v, kV_x, kR_r, kR_n, kR_x, kHI_i, kHI_0, kHI_1, kHV_v, kHV_0, kHV_1, va_s, va_n, exists_eq_left', exists_eq_left, forall_eq, forall_eq', and_true, true_and, and_self, Option.some.injEq, Prod.mk.injEq, if_tt, if_ff, reduceIte, reduceCtorEq, not_true_eq_false, not_false_eq_true, Nat.reduceAdd, Nat.reduceMul, Nat.reduceSub, Nat.reduceLT, Nat.reduceLeDiff, Nat.reduceEqDiff, false_implies, true_implies, implies_true, le_n]
    rw [if_neg (by omega)]
    have n199 : ¬ ((hW xs).drop f).all (isI xs) = true → PW (d + 2) M_Mod_faultOfText 199 [.ref A, uu, uu, uu, .int (nI k)] [] σ K := fun q =>
      e_Mod_faultOfText_199 A _ (nxt false (fun z => absurd z (by decide)) (fun _ => q))
    cases b with
    | false => rw [if_pos (by decide)]; exact n199 (hb2 rfl)
    | true =>
      rw [if_neg (by decide)]
      refine c_modIsIndicator hz hx hw hW_Win (by omega) ?_
      simp only [kI_i]
      have e := hb1 rfl
      rw [drop_get (W := hW xs) (a := k) (by omega), List.all_cons] at e
      cases hI : isI xs ((hW xs).getD k (0, 0)) with
      | false =>
        rw [if_pos (by decide)]
        rw [hI, Bool.false_and] at e
        exact n199 (fun q => absurd (e.mp q) (by decide))
      | true =>
        rw [if_neg (by decide)]
        rw [hI, Bool.true_and] at e
        exact nxt true (fun _ => e) (fun z => absurd z (by decide))
theorem fault_prec {a : Nat} {σ0 : PH} (hz : MZ σ A) (hx : TM σ A xs) (hw : WM σ A (hW xs)) (ha : a ≤ 2) (hP : hP3 xs = (hW xs).drop a) (hN : hNum xs ≠ 0) (h48 : gI σ 748 A = nI (hNum xs)) (h51 : gI σ 751 A = nI (if fle xs < xs.length then fle xs + 1 else xs.length)) (hf : MF ftF (ptP A) A σ0 σ) (hk : ∀ σ', FM σ' A xs false → MF ftF (ptP A) A σ0 σ' → K (.inl (some (.int (nI (flt xs false))))) σ') : PW (d + 2) M_Mod_faultOfText 64 [.ref A, uu, uu, uu, uu] [.int (nI a)] σ K := by
  have w2 := hw.2.1
  have x2 := hx.2.1
  have e3 : hPrc xs = 0 → flt xs false = 3 := fun h => by unfold flt; rw [if_neg hN, if_neg (by decide), if_pos h]
  have bad : hPrc xs = 0 → PW (d + 2) M_Mod_faultOfText 109 [.ref A, .int (nI a), uu, uu, uu] [] σ K := by
    intro h
    refine e_Mod_faultOfText_109 A _ (e_Mod_faultOfText_110 A _ _ ?_)
    rw [if_pos rfl]
    have := hk σ ⟨hx, hw, h51, fun _ => h48, fun q => by rw [e3 h] at q; omega⟩ hf
    rw [e3 h] at this
    exact this
  refine e_Mod_faultOfText_64 A _ ?_
  simp (disch := omega) only [bs_pI, cc_pI, cs_pI, sh_pI, gR_pI, eI_pI, eR_pI, eL_pI, bs_pR, cc_pR, cs_pR, sh_pR, gI_pR, eI_pR, eR_pR, eL_pR, bs_uI, cc_uI, cs_uI, sh_uI, gI_uI, gR_uI, eR_uI, eL_uI, bs_uR, cc_uR, cs_uR, sh_uR, gI_uR, gR_uR, eI_uR, eL_uR, bs_uL, cc_uL, cs_uL, sh_uL, gI_uL, gR_uL, eI_uL, eR_uL, gI_s, gI_d, gR_s, gR_d, eI_s, eI_d, eI_e, eR_s, eR_d, eR_e, eL_s, eL_d, bs_bump, cc_bump, cs_bump, sh_bump, gI_bump, gR_bump, eI_bump, eR_bump, eL_bump, l_0, l_1, l_2, l_3, l_4, l_5, l_6, l_7, l_8, l_9, l_10, l_11, l_12, l_13, l_14, l_15, l_16, l_17, l_18, l_19, l_20, l_21, l_22, l_23, l_24, l_25, l_26, l_27, l_28, l_29, l_30, l_31, l_32, l_33, l_34, l_35, l_36, l_37, l_38, l_39, l_40, l_41, l_42, l_43, l_44, l_45, l_46, l_47, l_48, l_49, l_50, l_51, l_52, l_53, l_54, l_55, l_56, l_57, l_58, l_59, l_60, l_61, l_62, l_63, l_64, l_65, l_66, l_67, l_68, l_69, l_70, l_71, l_72, l_73, l_74, l_75, l_76, l_77, l_78, l_79, l_80, l_81, l_82, l_83, l_84, l_85, l_86, l_87, l_88, l_89, l_90, l_91, l_92, l_93, l_94, l_95, l_96, l_97, l_98, l_99, l_100, l_101, l_102, l_103, l_104, l_105, l_106, l_107, l_108, l_109, l_110, l_111, l_112, l_113, l_114, l_115, l_116, l_117, l_118, l_119, l_120, l_121, l_122, l_123, l_124, l_125, l_126, l_127, l_128, l_129, l_130, l_256, l_512, l_676, l_704, l_999, l_1000, l_4096, l_17576, l_32768, l_65535, l_456975, l_456976, l_m1, l_m2, in_iff, eq_m1, m1_eq, m1_lt, m1_le, le_m1, lt_m1, eq_m2, m2_m1, m1_m2, add_m1, m1_add, sub_n, mul_n, add_n, bo_n0, bo_n1, ch_n, lt_n, le_n, eq_n, ix_n, i2c_n, rem_n, div_n, kI_i, kI_x, kV_v, kV_x, kR_r, kR_n, kR_x, kHI_i, kHI_0, kHI_1, kHV_v, kHV_0, kHV_1, va_s, va_n, exists_eq_left', exists_eq_left, forall_eq, forall_eq', and_true, true_and, and_self, Option.some.injEq, Prod.mk.injEq, if_tt, if_ff, reduceIte, reduceCtorEq, not_true_eq_false, not_false_eq_true, Nat.reduceAdd, Nat.reduceMul, Nat.reduceSub, Nat.reduceLT, Nat.reduceLeDiff, Nat.reduceEqDiff, false_implies, true_implies, implies_true, hz.1, z_747 hz, s_747 hz, hw.1]
  by_cases hle : (hW xs).length ≤ a
  · rw [if_pos hle]
    exact bad (by unfold hPrc; rw [hP, List.drop_eq_nil_of_le hle]; rfl)
  · rw [if_neg hle, (hw.2.2 a (by omega)).2]
    have hin := @hW_Win xs a (by omega)
    have eP : hPrc xs = prcP xs ((hW xs).getD a (0, 0)) := by unfold hPrc; rw [hP, drop_get (by omega)]; rfl
    simp (disch := omega) only [bs_pI, cc_pI, cs_pI, sh_pI, gR_pI, eI_pI, eR_pI, eL_pI, bs_pR, cc_pR, cs_pR, sh_pR, gI_pR, eI_pR, eR_pR, eL_pR, bs_uI, cc_uI, cs_uI, sh_uI, gI_uI, gR_uI, eR_uI, eL_uI, bs_uR, cc_uR, cs_uR, sh_uR, gI_uR, gR_uR, eI_uR, eL_uR, bs_uL, cc_uL, cs_uL, sh_uL, gI_uL, gR_uL, eI_uL, eR_uL, gI_s, gI_d, gR_s, gR_d, eI_s, eI_d, eI_e, eR_s, eR_d, eR_e, eL_s, eL_d, bs_bump, cc_bump, cs_bump, sh_bump, gI_bump, gR_bump, eI_bump, eR_bump, eL_bump, l_0, l_1, l_2, l_3, l_4, l_5, l_6, l_7, l_8, l_9, l_10, l_11, l_12, l_13, l_14, l_15, l_16, l_17, l_18, l_19, l_20, l_21, l_22, l_23, l_24, l_25, l_26, l_27, l_28, l_29, l_30, l_31, l_32, l_33, l_34, l_35, l_36, l_37, l_38, l_39, l_40, l_41, l_42, l_43, l_44, l_45, l_46, l_47, l_48, l_49, l_50, l_51, l_52, l_53, l_54, l_55, l_56, l_57, l_58, l_59, l_60, l_61, l_62, l_63, l_64, l_65, l_66, l_67, l_68, l_69, l_70, l_71, l_72, l_73, l_74, l_75, l_76, l_77, l_78, l_79, l_80, l_81, l_82, l_83, l_84, l_85, l_86, l_87, l_88, l_89, l_90, l_91, l_92, l_93, l_94, l_95, l_96, l_97, l_98, l_99, l_100, l_101, l_102, l_103, l_104, l_105, l_106, l_107, l_108, l_109, l_110, l_111, l_112, l_113, l_114, l_115, l_116, l_117, l_118, l_119, l_120, l_121, l_122, l_123, l_124, l_125, l_126, l_127, l_128, l_129, l_130, l_256, l_512, l_676, l_704, l_999, l_1000, l_4096, l_17576, l_32768, l_65535, l_456975, l_456976, l_m1, l_m2, in_iff, eq_m1, m1_eq, m1_lt, m1_le, le_m1, lt_m1, eq_m2, m2_m1, m1_m2, add_m1, m1_add, sub_n, mul_n, add_n, bo_n0, bo_n1, ch_n, lt_n, le_n, eq_n, ix_n, i2c_n, rem_n, div_n, kI_i, kI_x, kV_v, kV_x, kR_r, kR_n, kR_x, kHI_i, kHI_0, kHI_1, kHV_v, kHV_0, kHV_1, va_s, va_n, exists_eq_left', exists_eq_left, forall_eq, forall_eq', and_true, true_and, and_self, Option.some.injEq, Prod.mk.injEq, if_tt, if_ff, reduceIte, reduceCtorEq, not_true_eq_false, not_false_eq_true, Nat.reduceAdd, Nat.reduceMul, Nat.reduceSub, Nat.reduceLT, Nat.reduceLeDiff, Nat.reduceEqDiff, false_implies, true_implies, implies_true]
    refine ⟨by omega, ?_⟩
    have hlt := getD_lt hx.2.2.2 (((hW xs).getD a (0, 0)).1 + 0)
    rw [Nat.add_zero] at hlt
    by_cases h1 : ((hW xs).getD a (0, 0)).2 - ((hW xs).getD a (0, 0)).1 = 1
    · rw [if_pos h1]
      refine c_letter (k := 0) hz hx hw (by omega) (by omega) ?_
      simp (disch := omega) only [Nat.add_zero, kI_i, l_0, l_1, l_2, l_3, l_4, l_5, l_6, l_7, l_8, l_9, l_10, l_11, l_12, l_13, l_14, l_15, l_16, l_17, l_18, l_19, l_20, l_21, l_22, l_23, l_24, l_25, l_26, l_27, l_28, l_29, l_30, l_31, l_32, l_33, l_34, l_35, l_36, l_37, l_38, l_39, l_40, l_41, l_42, l_43, l_44, l_45, l_46, l_47, l_48, l_49, l_50, l_51, l_52, l_53, l_54, l_55, l_56, l_57, l_58, l_59, l_60, l_61, l_62, l_63, l_64, l_65, l_66, l_67, l_68, l_69, l_70, l_71, l_72, l_73, l_74, l_75, l_76, l_77, l_78, l_79, l_80, l_81, l_82, l_83, l_84, l_85, l_86, l_87, l_88, l_89, l_90, l_91, l_92, l_93, l_94, l_95, l_96, l_97, l_98, l_99, l_100, l_101, l_102, l_103, l_104, l_105, l_106, l_107, l_108, l_109, l_110, l_111, l_112, l_113, l_114, l_115, l_116, l_117, l_118, l_119, l_120, l_121, l_122, l_123, l_124, l_125, l_126, l_127, l_128, l_129, l_130, l_256, l_512, l_676, l_704, l_999, l_1000, l_4096, l_17576, l_32768, l_65535, l_456975, l_456976, l_m1, l_m2, lt_n]
      by_cases h49 : xs.getD ((hW xs).getD a (0, 0)).1 0 < 49
      · rw [if_pos h49]
        exact bad (by rw [eP]; unfold prcP; rw [if_neg (fun q => by have := q.2.1; omega)])
      · rw [if_neg h49]
        refine ⟨hz.1, c_letter (k := 0) hz hx hw (by omega) (by omega) ?_⟩
        simp (disch := omega) only [Nat.add_zero, kI_i, l_0, l_1, l_2, l_3, l_4, l_5, l_6, l_7, l_8, l_9, l_10, l_11, l_12, l_13, l_14, l_15, l_16, l_17, l_18, l_19, l_20, l_21, l_22, l_23, l_24, l_25, l_26, l_27, l_28, l_29, l_30, l_31, l_32, l_33, l_34, l_35, l_36, l_37, l_38, l_39, l_40, l_41, l_42, l_43, l_44, l_45, l_46, l_47, l_48, l_49, l_50, l_51, l_52, l_53, l_54, l_55, l_56, l_57, l_58, l_59, l_60, l_61, l_62, l_63, l_64, l_65, l_66, l_67, l_68, l_69, l_70, l_71, l_72, l_73, l_74, l_75, l_76, l_77, l_78, l_79, l_80, l_81, l_82, l_83, l_84, l_85, l_86, l_87, l_88, l_89, l_90, l_91, l_92, l_93, l_94, l_95, l_96, l_97, l_98, l_99, l_100, l_101, l_102, l_103, l_104, l_105, l_106, l_107, l_108, l_109, l_110, l_111, l_112, l_113, l_114, l_115, l_116, l_117, l_118, l_119, l_120, l_121, l_122, l_123, l_124, l_125, l_126, l_127, l_128, l_129, l_130, l_256, l_512, l_676, l_704, l_999, l_1000, l_4096, l_17576, l_32768, l_65535, l_456975, l_456976, l_m1, l_m2, lt_n]
        by_cases h52 : 52 < xs.getD ((hW xs).getD a (0, 0)).1 0
        · rw [if_pos h52]
          exact bad (by rw [eP]; unfold prcP; rw [if_neg (fun q => by have := q.2.2; omega)])
        · rw [if_neg h52]
          have eP2 : hPrc xs = xs.getD ((hW xs).getD a (0, 0)).1 0 - 48 := by rw [eP]; unfold prcP; rw [if_pos ⟨by omega, by omega, by omega⟩]
          have hP0 : hPrc xs ≠ 0 := by omega
          have eI : hI xs = (hW xs).drop (a + 1) := by unfold hI; rw [hP, drop_get (by omega)]; rfl
          refine e_Mod_faultOfText_110 A _ _ ?_
          rw [if_neg (by decide)]
          refine ⟨hz.1, c_letter (k := 0) hz hx hw (by omega) (by omega) ?_⟩
          simp only [Nat.add_zero]
          have f1 : MF ftF (ptP A) A σ (pI (pI σ 749 A (nI (xs.getD ((hW xs).getD a (0, 0)).1 0 - 48))) 750 A (nI (a + 1))) := (MF.pI (by unfold ftF; omega)).tr (MF.pI (by unfold ftF; omega))
          have hz1 := f1.z hz
          have hx1 : TM (pI (pI σ 749 A (nI (xs.getD ((hW xs).getD a (0, 0)).1 0 - 48))) 750 A (nI (a + 1))) A xs := hx.mf f1 (by unfold ftF; omega) (fun j => by unfold ptP; omega)
          have hw1 : WM (pI (pI σ 749 A (nI (xs.getD ((hW xs).getD a (0, 0)).1 0 - 48))) 750 A (nI (a + 1))) A (hW xs) := ⟨by simp (disch := omega) only [bs_pI, cc_pI, cs_pI, sh_pI, gR_pI, eI_pI, eR_pI, eL_pI, bs_pR, cc_pR, cs_pR, sh_pR, gI_pR, eI_pR, eR_pR, eL_pR, bs_uI, cc_uI, cs_uI, sh_uI, gI_uI, gR_uI, eR_uI, eL_uI, bs_uR, cc_uR, cs_uR, sh_uR, gI_uR, gR_uR, eI_uR, eL_uR, bs_uL, cc_uL, cs_uL, sh_uL, gI_uL, gR_uL, eI_uL, eR_uL, gI_s, gI_d, gR_s, gR_d, eI_s, eI_d, eI_e, eR_s, eR_d, eR_e, eL_s, eL_d, bs_bump, cc_bump, cs_bump, sh_bump, gI_bump, gR_bump, eI_bump, eR_bump, eL_bump, hw.1], hw.2.1, hw.2.2⟩
          have g48 : gI (pI (pI σ 749 A (nI (xs.getD ((hW xs).getD a (0, 0)).1 0 - 48))) 750 A (nI (a + 1))) 748 A = nI (hNum xs) := by simp (disch := omega) only [bs_pI, cc_pI, cs_pI, sh_pI, gR_pI, eI_pI, eR_pI, eL_pI, bs_pR, cc_pR, cs_pR, sh_pR, gI_pR, eI_pR, eR_pR, eL_pR, bs_uI, cc_uI, cs_uI, sh_uI, gI_uI, gR_uI, eR_uI, eL_uI, bs_uR, cc_uR, cs_uR, sh_uR, gI_uR, gR_uR, eI_uR, eL_uR, bs_uL, cc_uL, cs_uL, sh_uL, gI_uL, gR_uL, eI_uL, eR_uL, gI_s, gI_d, gR_s, gR_d, eI_s, eI_d, eI_e, eR_s, eR_d, eR_e, eL_s, eL_d, bs_bump, cc_bump, cs_bump, sh_bump, gI_bump, gR_bump, eI_bump, eR_bump, eL_bump, h48]
          have g49 : gI (pI (pI σ 749 A (nI (xs.getD ((hW xs).getD a (0, 0)).1 0 - 48))) 750 A (nI (a + 1))) 749 A = nI (hPrc xs) := by simp (disch := omega) only [bs_pI, cc_pI, cs_pI, sh_pI, gR_pI, eI_pI, eR_pI, eL_pI, bs_pR, cc_pR, cs_pR, sh_pR, gI_pR, eI_pR, eR_pR, eL_pR, bs_uI, cc_uI, cs_uI, sh_uI, gI_uI, gR_uI, eR_uI, eL_uI, bs_uR, cc_uR, cs_uR, sh_uR, gI_uR, gR_uR, eI_uR, eL_uR, bs_uL, cc_uL, cs_uL, sh_uL, gI_uL, gR_uL, eI_uL, eR_uL, gI_s, gI_d, gR_s, gR_d, eI_s, eI_d, eI_e, eR_s, eR_d, eR_e, eL_s, eL_d, bs_bump, cc_bump, cs_bump, sh_bump, gI_bump, gR_bump, eI_bump, eR_bump, eL_bump]; rw [eP2]
          have g50 : gI (pI (pI σ 749 A (nI (xs.getD ((hW xs).getD a (0, 0)).1 0 - 48))) 750 A (nI (a + 1))) 750 A = nI (a + 1) := by simp (disch := omega) only [bs_pI, cc_pI, cs_pI, sh_pI, gR_pI, eI_pI, eR_pI, eL_pI, bs_pR, cc_pR, cs_pR, sh_pR, gI_pR, eI_pR, eR_pR, eL_pR, bs_uI, cc_uI, cs_uI, sh_uI, gI_uI, gR_uI, eR_uI, eL_uI, bs_uR, cc_uR, cs_uR, sh_uR, gI_uR, gR_uR, eI_uR, eL_uR, bs_uL, cc_uL, cs_uL, sh_uL, gI_uL, gR_uL, eI_uL, eR_uL, gI_s, gI_d, gR_s, gR_d, eI_s, eI_d, eI_e, eR_s, eR_d, eR_e, eL_s, eL_d, bs_bump, cc_bump, cs_bump, sh_bump, gI_bump, gR_bump, eI_bump, eR_bump, eL_bump]
          have g51 : gI (pI (pI σ 749 A (nI (xs.getD ((hW xs).getD a (0, 0)).1 0 - 48))) 750 A (nI (a + 1))) 751 A = nI (if fle xs < xs.length then fle xs + 1 else xs.length) := by simp (disch := omega) only [bs_pI, cc_pI, cs_pI, sh_pI, gR_pI, eI_pI, eR_pI, eL_pI, bs_pR, cc_pR, cs_pR, sh_pR, gI_pR, eI_pR, eR_pR, eL_pR, bs_uI, cc_uI, cs_uI, sh_uI, gI_uI, gR_uI, eR_uI, eL_uI, bs_uR, cc_uR, cs_uR, sh_uR, gI_uR, gR_uR, eI_uR, eL_uR, bs_uL, cc_uL, cs_uL, sh_uL, gI_uL, gR_uL, eI_uL, eR_uL, gI_s, gI_d, gR_s, gR_d, eI_s, eI_d, eI_e, eR_s, eR_d, eR_e, eL_s, eL_d, bs_bump, cc_bump, cs_bump, sh_bump, gI_bump, gR_bump, eI_bump, eR_bump, eL_bump, h51]
          have bad4 : ¬ (1 ≤ (hI xs).length ∧ (hI xs).length ≤ 4 ∧ (hI xs).all (isI xs) = true) → K (.inl (some (.int (nI 4)))) (pI (pI σ 749 A (nI (xs.getD ((hW xs).getD a (0, 0)).1 0 - 48))) 750 A (nI (a + 1))) := by
            intro q
            have e4 : flt xs false = 4 := by unfold flt; rw [if_neg hN, if_neg (by decide), if_neg hP0, if_neg q]
            have := hk _ ⟨hx1, hw1, g51, fun _ => g48, fun q => by rw [e4] at q; omega⟩ (hf.tr f1)
            rw [e4] at this
            exact this
          have good0 : (1 ≤ (hI xs).length ∧ (hI xs).length ≤ 4 ∧ (hI xs).all (isI xs) = true) → K (.inl (some (.int (nI 0)))) (pI (pI σ 749 A (nI (xs.getD ((hW xs).getD a (0, 0)).1 0 - 48))) 750 A (nI (a + 1))) := by
            intro q
            have e0 : flt xs false = 0 := by unfold flt; rw [if_neg hN, if_neg (by decide), if_neg hP0, if_pos q]
            have := hk _ ⟨hx1, hw1, g51, fun _ => g48, fun _ => ⟨g49, a + 1, g50, by omega, eI⟩⟩ (hf.tr f1)
            rw [e0] at this
            exact this
          have hlI : (hI xs).length = (hW xs).length - (a + 1) := by rw [eI, List.length_drop]
          simp (disch := omega) only [kI_i, l_0, l_1, l_2, l_3, l_4, l_5, l_6, l_7, l_8, l_9, l_10, l_11, l_12, l_13, l_14, l_15, l_16, l_17, l_18, l_19, l_20, l_21, l_22, l_23, l_24, l_25, l_26, l_27, l_28, l_29, l_30, l_31, l_32, l_33, l_34, l_35, l_36, l_37, l_38, l_39, l_40, l_41, l_42, l_43, l_44, l_45, l_46, l_47, l_48, l_49, l_50, l_51, l_52, l_53, l_54, l_55, l_56, l_57, l_58, l_59, l_60, l_61, l_62, l_63, l_64, l_65, l_66, l_67, l_68, l_69, l_70, l_71, l_72, l_73, l_74, l_75, l_76, l_77, l_78, l_79, l_80, l_81, l_82, l_83, l_84, l_85, l_86, l_87, l_88, l_89, l_90, l_91, l_92, l_93, l_94, l_95, l_96, l_97, l_98, l_99, l_100, l_101, l_102, l_103, l_104, l_105, l_106, l_107, l_108, l_109, l_110, l_111, l_112, l_113, l_114, l_115, l_116, l_117, l_118, l_119, l_120, l_121, l_122, l_123, l_124, l_125, l_126, l_127, l_128, l_129, l_130, l_256, l_512, l_676, l_704, l_999, l_1000, l_4096, l_17576, l_32768, l_65535, l_456975, l_456976, l_m1, l_m2, kI_i, kI_x, kV_v, kV_x, kR_r, kR_n, kR_x, kHI_i, kHI_0, kHI_1, kHV_v, kHV_0, kHV_1, va_s, va_n, exists_eq_left', exists_eq_left, forall_eq, forall_eq', and_true, true_and, and_self, Option.some.injEq, Prod.mk.injEq, if_tt, if_ff, reduceIte, reduceCtorEq, not_true_eq_false, not_false_eq_true, Nat.reduceAdd, Nat.reduceMul, Nat.reduceSub, Nat.reduceLT, Nat.reduceLeDiff, Nat.reduceEqDiff, false_implies, true_implies, implies_true, sub_n, add_n, bs_pI, cc_pI, cs_pI, sh_pI, gR_pI, eI_pI, eR_pI, eL_pI, bs_pR, cc_pR, cs_pR, sh_pR, gI_pR, eI_pR, eR_pR, eL_pR, bs_uI, cc_uI, cs_uI, sh_uI, gI_uI, gR_uI, eR_uI, eL_uI, bs_uR, cc_uR, cs_uR, sh_uR, gI_uR, gR_uR, eI_uR, eL_uR, bs_uL, cc_uL, cs_uL, sh_uL, gI_uL, gR_uL, eI_uL, eR_uL, gI_s, gI_d, gR_s, gR_d, eI_s, eI_d, eI_e, eR_s, eR_d, eR_e, eL_s, eL_d, bs_bump, cc_bump, cs_bump, sh_bump, gI_bump, gR_bump, eI_bump, eR_bump, eL_bump, hz.1, hw.1]
          clear f1 hf hk
          generalize hσ : pI (pI σ 749 A (nI (xs.getD ((hW xs).getD a (0, 0)).1 0 - 48))) 750 A (nI (a + 1)) = σ2 at *
          have go173 : ∀ b : Bool, (b = true → 1 ≤ (hI xs).length ∧ (hI xs).length ≤ 4) → (b = false → ¬ (1 ≤ (hI xs).length ∧ (hI xs).length ≤ 4)) → PW (d + 2) M_Mod_faultOfText 166 [.ref A, uu, uu, uu, uu] [.int (nI b.toNat)] σ2 K := by
            intro b q1 q2
            refine e_Mod_faultOfText_166 A _ ⟨hz1.1, ?_⟩
            rw [g50]
            cases b with
            | true =>
              refine fault_ind (f := a + 1) hz1 hx1 hw1 (fun q => good0 ⟨(q1 rfl).1, (q1 rfl).2, by rw [eI]; exact q⟩) (fun q => bad4 (fun z => q (by rw [← eI]; exact z.2.2))) ((hW xs).length - (a + 1)) (a + 1) true (by omega) (fun _ => Iff.rfl) (fun z => absurd z (by decide))
            | false =>
              have bq := q2 rfl
              -- good stays false
              have key : ∀ (m k : Nat), k + m = (hW xs).length → PW (d + 2) M_Mod_faultOfText 173 [.ref A, uu, uu, .int (nI (Bool.toNat false)), .int (nI k)] [] σ2 K := by
                intro m
                induction m with
                | zero =>
                  intro k hm
                  refine e_Mod_faultOfText_173 A _ _ ⟨hz1.1, ?_⟩
                  rw [hw1.1, if_pos ((nI_le_iff (by omega) (by omega)).mpr (by omega)), if_pos (by decide)]
                  exact bad4 (fun z => bq ⟨z.1, z.2.1⟩)
                | succ m ih =>
                  intro k hm
                  refine e_Mod_faultOfText_173 A _ _ ⟨hz1.1, ?_⟩
                  rw [hw1.1, if_neg (fun q => by have := (nI_le_iff (by omega) (by omega)).mp q; omega), if_pos (by decide)]
                  refine e_Mod_faultOfText_199 A _ (e_Mod_faultOfText_200 A _ _ ?_)
                  rw [nI_1]
                  exact ih (k + 1) (by omega)
              exact key ((hW xs).length - (a + 1)) (a + 1) (by omega)
          by_cases hl1 : (hW xs).length ≤ a + 1
          · rw [if_pos ((nI_le_iff (by omega) (by omega)).mpr hl1)]
            exact e_Mod_faultOfText_165 A (go173 false (fun z => absurd z (by decide)) (fun _ q => by omega))
          · rw [if_neg (fun q => hl1 ((nI_le_iff (by omega) (by omega)).mp q))]
            simp (disch := omega) only [sub_n, lt_n]
            by_cases hl4 : 4 < (hW xs).length - (a + 1)
            · rw [if_pos hl4]
              exact e_Mod_faultOfText_165 A (go173 false (fun z => absurd z (by decide)) (fun _ q => by omega))
            · rw [if_neg hl4]
              exact go173 true (fun _ => ⟨by omega, by omega⟩) (fun z => absurd z (by decide))
    · rw [if_neg h1]
      exact bad (by rw [eP]; unfold prcP; rw [if_neg (fun q => h1 (by have := q.1; omega))])
theorem c_faultOfText {lg : Bool} (hz : MZ σ A) (hx : TM σ A xs) (h44 : gI σ 744 A = nI lg.toNat) (hk : ∀ σ', FM σ' A xs lg → MF ftF (ptP A) A σ σ' → K (.inl (some (.int (nI (flt xs lg))))) σ') : PW (d + 2) M_Mod_faultOfText 0 [.ref A, uu, uu, uu, uu] [] σ K := by
  refine e_Mod_faultOfText_0 A ⟨hz.1, c_part hz hx (fun σ1 hx1 hw1 h51 f1 => ?_)⟩
  have hz1 := f1.z hz
  have f1' : MF ftF (ptP A) A σ σ1 := f1.mo (fun f hf => by unfold ptF at hf; unfold ftF; omega) (fun a j h => h)
  have w2 := hw1.2.1
  have hN9 := @hNum_le xs
  simp only [kV_v]
  refine ⟨hz1.1, c_numberWord hz1 hx1 hw1 hW_Win ?_⟩
  have f2 : MF ftF (ptP A) A σ1 (pI σ1 748 A (nI (hNum xs))) := MF.pI (by unfold ftF; omega)
  have hz2 := f2.z hz1
  have hx2 : TM (pI σ1 748 A (nI (hNum xs))) A xs := hx1.mf f2 (by unfold ftF; omega) (fun j => by unfold ptP; omega)
  have hw2 : WM (pI σ1 748 A (nI (hNum xs))) A (hW xs) := ⟨by simp (disch := omega) only [bs_pI, cc_pI, cs_pI, sh_pI, gR_pI, eI_pI, eR_pI, eL_pI, bs_pR, cc_pR, cs_pR, sh_pR, gI_pR, eI_pR, eR_pR, eL_pR, bs_uI, cc_uI, cs_uI, sh_uI, gI_uI, gR_uI, eR_uI, eL_uI, bs_uR, cc_uR, cs_uR, sh_uR, gI_uR, gR_uR, eI_uR, eL_uR, bs_uL, cc_uL, cs_uL, sh_uL, gI_uL, gR_uL, eI_uL, eR_uL, gI_s, gI_d, gR_s, gR_d, eI_s, eI_d, eI_e, eR_s, eR_d, eR_e, eL_s, eL_d, bs_bump, cc_bump, cs_bump, sh_bump, gI_bump, gR_bump, eI_bump, eR_bump, eL_bump, hw1.1], hw1.2.1, hw1.2.2⟩
  have g48 : gI (pI σ1 748 A (nI (hNum xs))) 748 A = nI (hNum xs) := by simp only [bs_pI, cc_pI, cs_pI, sh_pI, gR_pI, eI_pI, eR_pI, eL_pI, bs_pR, cc_pR, cs_pR, sh_pR, gI_pR, eI_pR, eR_pR, eL_pR, bs_uI, cc_uI, cs_uI, sh_uI, gI_uI, gR_uI, eR_uI, eL_uI, bs_uR, cc_uR, cs_uR, sh_uR, gI_uR, gR_uR, eI_uR, eL_uR, bs_uL, cc_uL, cs_uL, sh_uL, gI_uL, gR_uL, eI_uL, eR_uL, gI_s, gI_d, gR_s, gR_d, eI_s, eI_d, eI_e, eR_s, eR_d, eR_e, eL_s, eL_d, bs_bump, cc_bump, cs_bump, sh_bump, gI_bump, gR_bump, eI_bump, eR_bump, eL_bump]
  have g44 : gI (pI σ1 748 A (nI (hNum xs))) 744 A = nI lg.toNat := by simp (disch := omega) only [bs_pI, cc_pI, cs_pI, sh_pI, gR_pI, eI_pI, eR_pI, eL_pI, bs_pR, cc_pR, cs_pR, sh_pR, gI_pR, eI_pR, eR_pR, eL_pR, bs_uI, cc_uI, cs_uI, sh_uI, gI_uI, gR_uI, eR_uI, eL_uI, bs_uR, cc_uR, cs_uR, sh_uR, gI_uR, gR_uR, eI_uR, eL_uR, bs_uL, cc_uL, cs_uL, sh_uL, gI_uL, gR_uL, eI_uL, eR_uL, gI_s, gI_d, gR_s, gR_d, eI_s, eI_d, eI_e, eR_s, eR_d, eR_e, eL_s, eL_d, bs_bump, cc_bump, cs_bump, sh_bump, gI_bump, gR_bump, eI_bump, eR_bump, eL_bump]; rw [f1.gI (by unfold ptF; omega)]; exact h44
  have g51 : gI (pI σ1 748 A (nI (hNum xs))) 751 A = nI (if fle xs < xs.length then fle xs + 1 else xs.length) := by simp (disch := omega) only [bs_pI, cc_pI, cs_pI, sh_pI, gR_pI, eI_pI, eR_pI, eL_pI, bs_pR, cc_pR, cs_pR, sh_pR, gI_pR, eI_pR, eR_pR, eL_pR, bs_uI, cc_uI, cs_uI, sh_uI, gI_uI, gR_uI, eR_uI, eL_uI, bs_uR, cc_uR, cs_uR, sh_uR, gI_uR, gR_uR, eI_uR, eL_uR, bs_uL, cc_uL, cs_uL, sh_uL, gI_uL, gR_uL, eI_uL, eR_uL, gI_s, gI_d, gR_s, gR_d, eI_s, eI_d, eI_e, eR_s, eR_d, eR_e, eL_s, eL_d, bs_bump, cc_bump, cs_bump, sh_bump, gI_bump, gR_bump, eI_bump, eR_bump, eL_bump, h51]
  have e0 : numW xs (hW xs) = hNum xs := rfl
  rw [e0]
  simp only [kI_i]
  refine ⟨hz1.1, fun σ3 e3 => ?_⟩
  rw [← e3] at f2 hz2 hx2 hw2 g48 g44 g51
  clear e3
  have f3 := f1'.tr f2
  refine ⟨hz2.1, ?_⟩
  rw [g48]
  simp (disch := omega) only [l_0, l_1, l_2, l_3, l_4, l_5, l_6, l_7, l_8, l_9, l_10, l_11, l_12, l_13, l_14, l_15, l_16, l_17, l_18, l_19, l_20, l_21, l_22, l_23, l_24, l_25, l_26, l_27, l_28, l_29, l_30, l_31, l_32, l_33, l_34, l_35, l_36, l_37, l_38, l_39, l_40, l_41, l_42, l_43, l_44, l_45, l_46, l_47, l_48, l_49, l_50, l_51, l_52, l_53, l_54, l_55, l_56, l_57, l_58, l_59, l_60, l_61, l_62, l_63, l_64, l_65, l_66, l_67, l_68, l_69, l_70, l_71, l_72, l_73, l_74, l_75, l_76, l_77, l_78, l_79, l_80, l_81, l_82, l_83, l_84, l_85, l_86, l_87, l_88, l_89, l_90, l_91, l_92, l_93, l_94, l_95, l_96, l_97, l_98, l_99, l_100, l_101, l_102, l_103, l_104, l_105, l_106, l_107, l_108, l_109, l_110, l_111, l_112, l_113, l_114, l_115, l_116, l_117, l_118, l_119, l_120, l_121, l_122, l_123, l_124, l_125, l_126, l_127, l_128, l_129, l_130, l_256, l_512, l_676, l_704, l_999, l_1000, l_4096, l_17576, l_32768, l_65535, l_456975, l_456976, l_m1, l_m2, eq_n]
  by_cases hN : hNum xs = 0
  · rw [if_pos hN]
    have e1 : flt xs lg = 1 := by unfold flt; rw [if_pos hN]
    have := hk σ3 ⟨hx2, hw2, g51, fun q => absurd e1 q, fun q => by rw [e1] at q; omega⟩ f3
    rw [e1] at this
    exact this
  · rw [if_neg hN, g44]
    cases lg with
    | true =>
      rw [if_neg (by decide)]
      have e2 : flt xs true = 2 := by unfold flt; rw [if_neg hN, if_pos rfl]
      have := hk σ3 ⟨hx2, hw2, g51, fun _ => g48, fun q => by rw [e2] at q; omega⟩ f3
      rw [e2] at this
      exact this
    | false =>
      rw [if_pos (by decide), hw2.1]
      simp (disch := omega) only [l_0, l_1, l_2, l_3, l_4, l_5, l_6, l_7, l_8, l_9, l_10, l_11, l_12, l_13, l_14, l_15, l_16, l_17, l_18, l_19, l_20, l_21, l_22, l_23, l_24, l_25, l_26, l_27, l_28, l_29, l_30, l_31, l_32, l_33, l_34, l_35, l_36, l_37, l_38, l_39, l_40, l_41, l_42, l_43, l_44, l_45, l_46, l_47, l_48, l_49, l_50, l_51, l_52, l_53, l_54, l_55, l_56, l_57, l_58, l_59, l_60, l_61, l_62, l_63, l_64, l_65, l_66, l_67, l_68, l_69, l_70, l_71, l_72, l_73, l_74, l_75, l_76, l_77, l_78, l_79, l_80, l_81, l_82, l_83, l_84, l_85, l_86, l_87, l_88, l_89, l_90, l_91, l_92, l_93, l_94, l_95, l_96, l_97, l_98, l_99, l_100, l_101, l_102, l_103, l_104, l_105, l_106, l_107, l_108, l_109, l_110, l_111, l_112, l_113, l_114, l_115, l_116, l_117, l_118, l_119, l_120, l_121, l_122, l_123, l_124, l_125, l_126, l_127, l_128, l_129, l_130, l_256, l_512, l_676, l_704, l_999, l_1000, l_4096, l_17576, l_32768, l_65535, l_456975, l_456976, l_m1, l_m2, le_n]
      have x2 := hx2.2.1
      have stay : hP3 xs = (hW xs).drop 1 → PW (d + 2) M_Mod_faultOfText 63 [.ref A, uu, uu, uu, uu] [] σ3 K := fun hP =>
        e_Mod_faultOfText_63 A (fault_prec (a := 1) hz2 hx2 hw2 (by omega) hP hN g48 g51 f3 hk)
      by_cases hl : (hW xs).length ≤ 1
      · rw [if_pos hl]
        refine stay ?_
        unfold hP3
        rw [List.drop_eq_nil_of_le hl]
        have : (hW xs).tail = [] := by
          cases hq : hW xs with
          | nil => rfl
          | cons p r =>
            rw [hq] at hl
            cases r with
            | nil => rfl
            | cons p' r' => simp at hl
        rw [this]; rfl
      · rw [if_neg hl]
        have hin := @hW_Win xs 1 (by omega)
        have eT : (hW xs).tail = (hW xs).getD 1 (0, 0) :: (hW xs).drop 2 := by
          rw [← List.drop_one, drop_get (by omega)]
        have hP : hP3 xs = if isR1 xs ((hW xs).getD 1 (0, 0)) = true then (hW xs).drop 2 else (hW xs).drop 1 := by
          unfold hP3
          rw [eT]
          show (if _ then _ else _) = _
          rw [drop_get (W := hW xs) (a := 1) (by omega)]
        refine ⟨A + 37, z_747 hz2, 64, s_747 hz2, in_n (n := 1) (by decide) (by decide), ?_⟩
        rw [show ix (nI 1) = 1 from rfl, (hw2.2.2 1 (by omega)).2]
        simp (disch := omega) only [l_0, l_1, l_2, l_3, l_4, l_5, l_6, l_7, l_8, l_9, l_10, l_11, l_12, l_13, l_14, l_15, l_16, l_17, l_18, l_19, l_20, l_21, l_22, l_23, l_24, l_25, l_26, l_27, l_28, l_29, l_30, l_31, l_32, l_33, l_34, l_35, l_36, l_37, l_38, l_39, l_40, l_41, l_42, l_43, l_44, l_45, l_46, l_47, l_48, l_49, l_50, l_51, l_52, l_53, l_54, l_55, l_56, l_57, l_58, l_59, l_60, l_61, l_62, l_63, l_64, l_65, l_66, l_67, l_68, l_69, l_70, l_71, l_72, l_73, l_74, l_75, l_76, l_77, l_78, l_79, l_80, l_81, l_82, l_83, l_84, l_85, l_86, l_87, l_88, l_89, l_90, l_91, l_92, l_93, l_94, l_95, l_96, l_97, l_98, l_99, l_100, l_101, l_102, l_103, l_104, l_105, l_106, l_107, l_108, l_109, l_110, l_111, l_112, l_113, l_114, l_115, l_116, l_117, l_118, l_119, l_120, l_121, l_122, l_123, l_124, l_125, l_126, l_127, l_128, l_129, l_130, l_256, l_512, l_676, l_704, l_999, l_1000, l_4096, l_17576, l_32768, l_65535, l_456975, l_456976, l_m1, l_m2, eq_n]
        by_cases h1 : ((hW xs).getD 1 (0, 0)).2 - ((hW xs).getD 1 (0, 0)).1 = 1
        · rw [if_pos h1]
          have hlt := getD_lt hx2.2.2.2 (((hW xs).getD 1 (0, 0)).1 + 0)
          rw [Nat.add_zero] at hlt
          refine c_letter (w := 1) (k := 0) hz2 hx2 hw2 (by omega) (by omega) ?_
          simp (disch := omega) only [Nat.add_zero, kI_i, l_0, l_1, l_2, l_3, l_4, l_5, l_6, l_7, l_8, l_9, l_10, l_11, l_12, l_13, l_14, l_15, l_16, l_17, l_18, l_19, l_20, l_21, l_22, l_23, l_24, l_25, l_26, l_27, l_28, l_29, l_30, l_31, l_32, l_33, l_34, l_35, l_36, l_37, l_38, l_39, l_40, l_41, l_42, l_43, l_44, l_45, l_46, l_47, l_48, l_49, l_50, l_51, l_52, l_53, l_54, l_55, l_56, l_57, l_58, l_59, l_60, l_61, l_62, l_63, l_64, l_65, l_66, l_67, l_68, l_69, l_70, l_71, l_72, l_73, l_74, l_75, l_76, l_77, l_78, l_79, l_80, l_81, l_82, l_83, l_84, l_85, l_86, l_87, l_88, l_89, l_90, l_91, l_92, l_93, l_94, l_95, l_96, l_97, l_98, l_99, l_100, l_101, l_102, l_103, l_104, l_105, l_106, l_107, l_108, l_109, l_110, l_111, l_112, l_113, l_114, l_115, l_116, l_117, l_118, l_119, l_120, l_121, l_122, l_123, l_124, l_125, l_126, l_127, l_128, l_129, l_130, l_256, l_512, l_676, l_704, l_999, l_1000, l_4096, l_17576, l_32768, l_65535, l_456975, l_456976, l_m1, l_m2, eq_n]
          by_cases h82 : xs.getD ((hW xs).getD 1 (0, 0)).1 0 = 82
          · rw [if_pos h82]
            have hr1 : isR1 xs ((hW xs).getD 1 (0, 0)) = true := decide_eq_true ⟨by omega, h82⟩
            rw [hr1, if_pos rfl] at hP
            exact fault_prec (a := 2) hz2 hx2 hw2 (by omega) hP hN g48 g51 f3 hk
          · rw [if_neg h82]
            have : isR1 xs ((hW xs).getD 1 (0, 0)) = false := decide_eq_false (fun q => h82 q.2)
            rw [this, if_neg (by decide)] at hP
            exact stay hP
        · rw [if_neg h1]
          have : isR1 xs ((hW xs).getD 1 (0, 0)) = false := decide_eq_false (fun q => h1 (by have := q.1; omega))
          rw [this, if_neg (by decide)] at hP
          exact stay hP
end Mod4
