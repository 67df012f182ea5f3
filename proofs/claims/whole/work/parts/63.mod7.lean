/-! ===== the reference: group ===== -/
section Mod7
variable {d : Nat} {σ : PH} {K : PO → PH → Prop} {A : Nat} {S : SP} {R : List RO}
theorem Aft.tr {σ0 : PH} {f : Nat} {k : PH → Prop} (h : Aft σ0 A S f k) (hf : Fr (gP A) σ0 σ) : Aft σ A S f k := fun σ' h1 h2 h3 => h σ' h1 h2 (hf.tr h3)
theorem c_group153 {k cnt x : Nat} (hz : MZ σ A) (hk12 : k < 12) (hc : cnt < 4) (h12 : eI σ (A + 12) k = nI cnt) (hk : K (.inl (some (.int (nI (cnt + 1))))) (uI (uI σ (A + 13) (4 * k + cnt) (nI x)) (A + 12) k (nI (cnt + 1)))) : PW (d + 1) M_Mod_group 153 [.ref A, uu, .int (nI x), uu, uu] [.int (nI k)] σ K := by
  refine e_Mod_group_153 A _ _ ?_
  simp (disch := omega) only [bs_pI, cc_pI, cs_pI, sh_pI, gR_pI, eI_pI, eR_pI, eL_pI, bs_pR, cc_pR, cs_pR, sh_pR, gI_pR, eI_pR, eR_pR, eL_pR, bs_uI, cc_uI, cs_uI, sh_uI, gI_uI, gR_uI, eR_uI, eL_uI, bs_uR, cc_uR, cs_uR, sh_uR, gI_uR, gR_uR, eI_uR, eL_uR, bs_uL, cc_uL, cs_uL, sh_uL, gI_uL, gR_uL, eI_uL, eR_uL, gI_s, gI_d, gR_s, gR_d, eI_s, eI_d, eI_e, eR_s, eR_d, eR_e, eL_s, eL_d, bs_bump, cc_bump, cs_bump, sh_bump, gI_bump, gR_bump, eI_bump, eR_bump, eL_bump, l_0, l_1, l_2, l_3, l_4, l_5, l_6, l_7, l_8, l_9, l_10, l_11, l_12, l_13, l_14, l_15, l_16, l_17, l_18, l_19, l_20, l_21, l_22, l_23, l_24, l_25, l_26, l_27, l_28, l_29, l_30, l_31, l_32, l_33, l_34, l_35, l_36, l_37, l_38, l_39, l_40, l_41, l_42, l_43, l_44, l_45, l_46, l_47, l_48, l_49, l_50, l_51, l_52, l_53, l_54, l_55, l_56, l_57, l_58, l_59, l_60, l_61, l_62, l_63, l_64, l_65, l_66, l_67, l_68, l_69, l_70, l_71, l_72, l_73, l_74, l_75, l_76, l_77, l_78, l_79, l_80, l_81, l_82, l_83, l_84, l_85, l_86, l_87, l_88, l_89, l_90, l_91, l_92, l_93, l_94, l_95, l_96, l_97, l_98, l_99, l_100, l_101, l_102, l_103, l_104, l_105, l_106, l_107, l_108, l_109, l_110, l_111, l_112, l_113, l_114, l_115, l_116, l_117, l_118, l_119, l_120, l_121, l_122, l_123, l_124, l_125, l_126, l_127, l_128, l_129, l_130, l_256, l_512, l_676, l_704, l_999, l_1000, l_4096, l_17576, l_32768, l_65535, l_456975, l_456976, l_m1, l_m2, in_iff, eq_m1, m1_eq, m1_lt, m1_le, le_m1, lt_m1, eq_m2, m2_m1, m1_m2, add_m1, m1_add, sub_n, mul_n, add_n, bo_n0, bo_n1, ch_n, lt_n, le_n, eq_n, ix_n, i2c_n, rem_n, div_n, kI_i, kI_x, kV_v, kV_x, kR_r, kR_n, kR_x, kHI_i, kHI_0, kHI_1, kHV_v, kHV_0, kHV_1, va_s, va_n, exists_eq_left', exists_eq_left, forall_eq, forall_eq', and_true, true_and, and_self, Option.some.injEq, Prod.mk.injEq, if_tt, if_ff, reduceIte, reduceCtorEq, not_true_eq_false, not_false_eq_true, Nat.reduceAdd, Nat.reduceMul, Nat.reduceSub, Nat.reduceLT, Nat.reduceLeDiff, Nat.reduceEqDiff, false_implies, true_implies, implies_true, hz.1, z_717 hz, s_717 hz, z_718 hz, s_718 hz, h12]
  exact ⟨by omega, by omega, by omega, by omega, by omega, hk⟩
theorem group_end {i x f : Nat} (hM : MR σ A S) (hf : f ≤ 2) (hs : f = 0 → (rix S.2.2.2 i < S.2.2.2.length → (S.2.2.2.getD (rix S.2.2.2 i) r0).2.2.2 ≠ [] ∧ (S.2.2.2.getD (rix S.2.2.2 i) r0).2.2.2.length < 4) ∧ (¬ rix S.2.2.2 i < S.2.2.2.length → S.2.2.2.length < 12)) (hk0 : f = 0 → Aft σ A (uR' S (gpR S.2.2.2 i x)) 0 (K (.inl (some (.int (nI (gpN S.2.2.2 i))))))) (hk1 : f ≠ 0 → Aft σ A S f (K (.inl (some (.int (nI 0)))))) : PW (d + 1) M_Mod_group 129 [.ref A, .int (nI i), .int (nI x), uu, .int (if rix S.2.2.2 i < S.2.2.2.length then nI (rix S.2.2.2 i) else m1)] [.int (nI f), .ref A] σ K := by
  have hM0 := hM
  obtain ⟨hz, -, ho, -, -⟩ := hM
  have ho0 := ho
  obtain ⟨o1, o2, o3⟩ := ho
  refine e_Mod_group_129 A _ _ _ _ _ ⟨hz.1, c_refused hz hf ?_⟩
  simp only [kI_i]
  by_cases h0 : f = 0
  · subst h0
    have hk := hk0 rfl
    obtain ⟨s1, s2⟩ := hs rfl
    clear hk0 hk1 hs
    rw [if_pos (by decide)]
    unfold gpR gpN at hk
    have f0 : MF roF (roP A) A σ (pI σ 704 A (nI 0)) := MF.pI (Or.inl rfl)
    have hz0 := f0.z hz
    by_cases hr : rix S.2.2.2 i < S.2.2.2.length
    · rw [if_pos hr, if_pos hr] at hk
      rw [if_pos hr, if_pos (show (0 : Int32) ≤ nI (rix S.2.2.2 i) from (nI_le_iff (a := 0) (by decide) (by omega)).mpr (by omega))]
      obtain ⟨s1, s3⟩ := s1 hr
      obtain ⟨b1, b2, b3, b4, b5, b6⟩ := o3 _ hr
      refine c_group153 (cnt := (S.2.2.2.getD (rix S.2.2.2 i) r0).2.2.2.length) hz0 (by omega) s3 b4 ?_
      have f1 : MF roF (roP A) A σ (uI (uI (pI σ 704 A (nI 0)) (A + 13) (4 * rix S.2.2.2 i + (S.2.2.2.getD (rix S.2.2.2 i) r0).2.2.2.length) (nI x)) (A + 12) (rix S.2.2.2 i) (nI ((S.2.2.2.getD (rix S.2.2.2 i) r0).2.2.2.length + 1))) := (f0.tr (MF.uI (by unfold roP; omega))).tr (MF.uI (by unfold roP; omega))
      refine hk _ (roMR hM0 f1 ⟨?_, ?_, fun k hk2 => ?_⟩) ?_ (roFr f1)
      · simp (disch := omega) only [bs_pI, cc_pI, cs_pI, sh_pI, gR_pI, eI_pI, eR_pI, eL_pI, bs_pR, cc_pR, cs_pR, sh_pR, gI_pR, eI_pR, eR_pR, eL_pR, bs_uI, cc_uI, cs_uI, sh_uI, gI_uI, gR_uI, eR_uI, eL_uI, bs_uR, cc_uR, cs_uR, sh_uR, gI_uR, gR_uR, eI_uR, eL_uR, bs_uL, cc_uL, cs_uL, sh_uL, gI_uL, gR_uL, eI_uL, eR_uL, gI_s, gI_d, gR_s, gR_d, eI_s, eI_d, eI_e, eR_s, eR_d, eR_e, eL_s, eL_d, bs_bump, cc_bump, cs_bump, sh_bump, gI_bump, gR_bump, eI_bump, eR_bump, eL_bump]; rw [List.length_set]; exact o1
      · rw [List.length_set]; exact o2
      · rw [List.length_set] at hk2
        rw [getD_setR hr]
        obtain ⟨b1', b2', b3', b4', b5', b6'⟩ := o3 k hk2
        by_cases hkr : k = rix S.2.2.2 i
        · rw [if_pos hkr]
          subst hkr
          rw [if_neg s1] at b2
          simp (disch := omega) only [bs_pI, cc_pI, cs_pI, sh_pI, gR_pI, eI_pI, eR_pI, eL_pI, bs_pR, cc_pR, cs_pR, sh_pR, gI_pR, eI_pR, eR_pR, eL_pR, bs_uI, cc_uI, cs_uI, sh_uI, gI_uI, gR_uI, eR_uI, eL_uI, bs_uR, cc_uR, cs_uR, sh_uR, gI_uR, gR_uR, eI_uR, eL_uR, bs_uL, cc_uL, cs_uL, sh_uL, gI_uL, gR_uL, eI_uL, eR_uL, gI_s, gI_d, gR_s, gR_d, eI_s, eI_d, eI_e, eR_s, eR_d, eR_e, eL_s, eL_d, bs_bump, cc_bump, cs_bump, sh_bump, gI_bump, gR_bump, eI_bump, eR_bump, eL_bump]
          refine ⟨b1, ?_, fun q => absurd q (by simp), by show _ = nI ((S.2.2.2.getD (rix S.2.2.2 i) r0).2.2.2 ++ [x]).length; rw [List.length_append, List.length_singleton], by show ((S.2.2.2.getD (rix S.2.2.2 i) r0).2.2.2 ++ [x]).length ≤ 4; rw [List.length_append, List.length_singleton]; omega, fun q hq => ?_⟩
          · rw [if_neg (by simp)]; exact b2
          · have hq : q < ((S.2.2.2.getD (rix S.2.2.2 i) r0).2.2.2 ++ [x]).length := hq
            rw [List.length_append, List.length_singleton] at hq
            show _ = nI ((_ ++ [x]).getD q 0)
            rw [getD_snoc]
            by_cases hq2 : q < (S.2.2.2.getD (rix S.2.2.2 i) r0).2.2.2.length
            · rw [if_pos hq2]; simp (disch := omega) only [bs_pI, cc_pI, cs_pI, sh_pI, gR_pI, eI_pI, eR_pI, eL_pI, bs_pR, cc_pR, cs_pR, sh_pR, gI_pR, eI_pR, eR_pR, eL_pR, bs_uI, cc_uI, cs_uI, sh_uI, gI_uI, gR_uI, eR_uI, eL_uI, bs_uR, cc_uR, cs_uR, sh_uR, gI_uR, gR_uR, eI_uR, eL_uR, bs_uL, cc_uL, cs_uL, sh_uL, gI_uL, gR_uL, eI_uL, eR_uL, gI_s, gI_d, gR_s, gR_d, eI_s, eI_d, eI_e, eR_s, eR_d, eR_e, eL_s, eL_d, bs_bump, cc_bump, cs_bump, sh_bump, gI_bump, gR_bump, eI_bump, eR_bump, eL_bump]; exact b6 q hq2
            · have : q = (S.2.2.2.getD (rix S.2.2.2 i) r0).2.2.2.length := by omega
              subst this
              rw [if_neg hq2, if_pos rfl]; simp (disch := omega) only [bs_pI, cc_pI, cs_pI, sh_pI, gR_pI, eI_pI, eR_pI, eL_pI, bs_pR, cc_pR, cs_pR, sh_pR, gI_pR, eI_pR, eR_pR, eL_pR, bs_uI, cc_uI, cs_uI, sh_uI, gI_uI, gR_uI, eR_uI, eL_uI, bs_uR, cc_uR, cs_uR, sh_uR, gI_uR, gR_uR, eI_uR, eL_uR, bs_uL, cc_uL, cs_uL, sh_uL, gI_uL, gR_uL, eI_uL, eR_uL, gI_s, gI_d, gR_s, gR_d, eI_s, eI_d, eI_e, eR_s, eR_d, eR_e, eL_s, eL_d, bs_bump, cc_bump, cs_bump, sh_bump, gI_bump, gR_bump, eI_bump, eR_bump, eL_bump]
        · rw [if_neg hkr]
          simp (disch := omega) only [bs_pI, cc_pI, cs_pI, sh_pI, gR_pI, eI_pI, eR_pI, eL_pI, bs_pR, cc_pR, cs_pR, sh_pR, gI_pR, eI_pR, eR_pR, eL_pR, bs_uI, cc_uI, cs_uI, sh_uI, gI_uI, gR_uI, eR_uI, eL_uI, bs_uR, cc_uR, cs_uR, sh_uR, gI_uR, gR_uR, eI_uR, eL_uR, bs_uL, cc_uL, cs_uL, sh_uL, gI_uL, gR_uL, eI_uL, eR_uL, gI_s, gI_d, gR_s, gR_d, eI_s, eI_d, eI_e, eR_s, eR_d, eR_e, eL_s, eL_d, bs_bump, cc_bump, cs_bump, sh_bump, gI_bump, gR_bump, eI_bump, eR_bump, eL_bump]
          exact ⟨b1', b2', b3', b4', b5', fun q hq => by simp (disch := omega) only [bs_pI, cc_pI, cs_pI, sh_pI, gR_pI, eI_pI, eR_pI, eL_pI, bs_pR, cc_pR, cs_pR, sh_pR, gI_pR, eI_pR, eR_pR, eL_pR, bs_uI, cc_uI, cs_uI, sh_uI, gI_uI, gR_uI, eR_uI, eL_uI, bs_uR, cc_uR, cs_uR, sh_uR, gI_uR, gR_uR, eI_uR, eL_uR, bs_uL, cc_uL, cs_uL, sh_uL, gI_uL, gR_uL, eI_uL, eR_uL, gI_s, gI_d, gR_s, gR_d, eI_s, eI_d, eI_e, eR_s, eR_d, eR_e, eL_s, eL_d, bs_bump, cc_bump, cs_bump, sh_bump, gI_bump, gR_bump, eI_bump, eR_bump, eL_bump]; exact b6' q hq⟩
      · simp (disch := omega) only [bs_pI, cc_pI, cs_pI, sh_pI, gR_pI, eI_pI, eR_pI, eL_pI, bs_pR, cc_pR, cs_pR, sh_pR, gI_pR, eI_pR, eR_pR, eL_pR, bs_uI, cc_uI, cs_uI, sh_uI, gI_uI, gR_uI, eR_uI, eL_uI, bs_uR, cc_uR, cs_uR, sh_uR, gI_uR, gR_uR, eI_uR, eL_uR, bs_uL, cc_uL, cs_uL, sh_uL, gI_uL, gR_uL, eI_uL, eR_uL, gI_s, gI_d, gR_s, gR_d, eI_s, eI_d, eI_e, eR_s, eR_d, eR_e, eL_s, eL_d, bs_bump, cc_bump, cs_bump, sh_bump, gI_bump, gR_bump, eI_bump, eR_bump, eL_bump]
    · rw [if_neg hr, if_neg hr] at hk
      rw [if_neg hr, if_neg (by decide)]
      have s2 := s2 hr
      refine ⟨hz0.1, c_addRoute (R := S.2.2.2) hz0 ⟨by simp (disch := omega) only [bs_pI, cc_pI, cs_pI, sh_pI, gR_pI, eI_pI, eR_pI, eL_pI, bs_pR, cc_pR, cs_pR, sh_pR, gI_pR, eI_pR, eR_pR, eL_pR, bs_uI, cc_uI, cs_uI, sh_uI, gI_uI, gR_uI, eR_uI, eL_uI, bs_uR, cc_uR, cs_uR, sh_uR, gI_uR, gR_uR, eI_uR, eL_uR, bs_uL, cc_uL, cs_uL, sh_uL, gI_uL, gR_uL, eI_uL, eR_uL, gI_s, gI_d, gR_s, gR_d, eI_s, eI_d, eI_e, eR_s, eR_d, eR_e, eL_s, eL_d, bs_bump, cc_bump, cs_bump, sh_bump, gI_bump, gR_bump, eI_bump, eR_bump, eL_bump]; exact o1, o2, o3⟩ s2 ?_⟩
      have f1 : MF roF (roP A) A σ (pI (uI (uI (uI (pI σ 704 A (nI 0)) (A + 8) S.2.2.2.length (nI i)) (A + 9) S.2.2.2.length (nI 2)) (A + 12) S.2.2.2.length (nI 0)) 712 A (nI (S.2.2.2.length + 1))) := (((f0.tr (MF.uI (by unfold roP; omega))).tr (MF.uI (by unfold roP; omega))).tr (MF.uI (by unfold roP; omega))).tr (MF.pI (Or.inr rfl))
      simp only [kI_i]
      refine c_group153 (cnt := 0) (f1.z hz) (by omega) (by omega) (by simp (disch := omega) only [bs_pI, cc_pI, cs_pI, sh_pI, gR_pI, eI_pI, eR_pI, eL_pI, bs_pR, cc_pR, cs_pR, sh_pR, gI_pR, eI_pR, eR_pR, eL_pR, bs_uI, cc_uI, cs_uI, sh_uI, gI_uI, gR_uI, eR_uI, eL_uI, bs_uR, cc_uR, cs_uR, sh_uR, gI_uR, gR_uR, eI_uR, eL_uR, bs_uL, cc_uL, cs_uL, sh_uL, gI_uL, gR_uL, eI_uL, eR_uL, gI_s, gI_d, gR_s, gR_d, eI_s, eI_d, eI_e, eR_s, eR_d, eR_e, eL_s, eL_d, bs_bump, cc_bump, cs_bump, sh_bump, gI_bump, gR_bump, eI_bump, eR_bump, eL_bump]) ?_
      have f2 : MF roF (roP A) A σ (uI (uI (pI (uI (uI (uI (pI σ 704 A (nI 0)) (A + 8) S.2.2.2.length (nI i)) (A + 9) S.2.2.2.length (nI 2)) (A + 12) S.2.2.2.length (nI 0)) 712 A (nI (S.2.2.2.length + 1))) (A + 13) (4 * S.2.2.2.length + 0) (nI x)) (A + 12) S.2.2.2.length (nI (0 + 1))) := (f1.tr (MF.uI (by unfold roP; omega))).tr (MF.uI (by unfold roP; omega))
      refine hk _ (roMR hM0 f2 ⟨?_, ?_, fun k hk2 => ?_⟩) ?_ (roFr f2)
      · simp (disch := omega) only [bs_pI, cc_pI, cs_pI, sh_pI, gR_pI, eI_pI, eR_pI, eL_pI, bs_pR, cc_pR, cs_pR, sh_pR, gI_pR, eI_pR, eR_pR, eL_pR, bs_uI, cc_uI, cs_uI, sh_uI, gI_uI, gR_uI, eR_uI, eL_uI, bs_uR, cc_uR, cs_uR, sh_uR, gI_uR, gR_uR, eI_uR, eL_uR, bs_uL, cc_uL, cs_uL, sh_uL, gI_uL, gR_uL, eI_uL, eR_uL, gI_s, gI_d, gR_s, gR_d, eI_s, eI_d, eI_e, eR_s, eR_d, eR_e, eL_s, eL_d, bs_bump, cc_bump, cs_bump, sh_bump, gI_bump, gR_bump, eI_bump, eR_bump, eL_bump]; simp
      · simp; omega
      · simp at hk2
        rw [getD_snocR]
        by_cases hkr : k < S.2.2.2.length
        · rw [if_pos hkr]
          obtain ⟨b1', b2', b3', b4', b5', b6'⟩ := o3 k hkr
          simp (disch := omega) only [bs_pI, cc_pI, cs_pI, sh_pI, gR_pI, eI_pI, eR_pI, eL_pI, bs_pR, cc_pR, cs_pR, sh_pR, gI_pR, eI_pR, eR_pR, eL_pR, bs_uI, cc_uI, cs_uI, sh_uI, gI_uI, gR_uI, eR_uI, eL_uI, bs_uR, cc_uR, cs_uR, sh_uR, gI_uR, gR_uR, eI_uR, eL_uR, bs_uL, cc_uL, cs_uL, sh_uL, gI_uL, gR_uL, eI_uL, eR_uL, gI_s, gI_d, gR_s, gR_d, eI_s, eI_d, eI_e, eR_s, eR_d, eR_e, eL_s, eL_d, bs_bump, cc_bump, cs_bump, sh_bump, gI_bump, gR_bump, eI_bump, eR_bump, eL_bump]
          exact ⟨b1', b2', b3', b4', b5', fun q hq => by simp (disch := omega) only [bs_pI, cc_pI, cs_pI, sh_pI, gR_pI, eI_pI, eR_pI, eL_pI, bs_pR, cc_pR, cs_pR, sh_pR, gI_pR, eI_pR, eR_pR, eL_pR, bs_uI, cc_uI, cs_uI, sh_uI, gI_uI, gR_uI, eR_uI, eL_uI, bs_uR, cc_uR, cs_uR, sh_uR, gI_uR, gR_uR, eI_uR, eL_uR, bs_uL, cc_uL, cs_uL, sh_uL, gI_uL, gR_uL, eI_uL, eR_uL, gI_s, gI_d, gR_s, gR_d, eI_s, eI_d, eI_e, eR_s, eR_d, eR_e, eL_s, eL_d, bs_bump, cc_bump, cs_bump, sh_bump, gI_bump, gR_bump, eI_bump, eR_bump, eL_bump]; exact b6' q hq⟩
        · have : k = S.2.2.2.length := by omega
          subst this
          rw [if_neg hkr, if_pos rfl]
          simp (disch := omega) only [bs_pI, cc_pI, cs_pI, sh_pI, gR_pI, eI_pI, eR_pI, eL_pI, bs_pR, cc_pR, cs_pR, sh_pR, gI_pR, eI_pR, eR_pR, eL_pR, bs_uI, cc_uI, cs_uI, sh_uI, gI_uI, gR_uI, eR_uI, eL_uI, bs_uR, cc_uR, cs_uR, sh_uR, gI_uR, gR_uR, eI_uR, eL_uR, bs_uL, cc_uL, cs_uL, sh_uL, gI_uL, gR_uL, eI_uL, eR_uL, gI_s, gI_d, gR_s, gR_d, eI_s, eI_d, eI_e, eR_s, eR_d, eR_e, eL_s, eL_d, bs_bump, cc_bump, cs_bump, sh_bump, gI_bump, gR_bump, eI_bump, eR_bump, eL_bump]
          refine ⟨by first | trivial | rfl, by first | trivial | rfl, fun q => absurd q (by simp), by first | trivial | rfl, by simp, fun q hq => ?_⟩
          simp at hq
          subst hq
          simp (disch := omega) only [bs_pI, cc_pI, cs_pI, sh_pI, gR_pI, eI_pI, eR_pI, eL_pI, bs_pR, cc_pR, cs_pR, sh_pR, gI_pR, eI_pR, eR_pR, eL_pR, bs_uI, cc_uI, cs_uI, sh_uI, gI_uI, gR_uI, eR_uI, eL_uI, bs_uR, cc_uR, cs_uR, sh_uR, gI_uR, gR_uR, eI_uR, eL_uR, bs_uL, cc_uL, cs_uL, sh_uL, gI_uL, gR_uL, eI_uL, eR_uL, gI_s, gI_d, gR_s, gR_d, eI_s, eI_d, eI_e, eR_s, eR_d, eR_e, eL_s, eL_d, bs_bump, cc_bump, cs_bump, sh_bump, gI_bump, gR_bump, eI_bump, eR_bump, eL_bump]
          rfl
      · simp (disch := omega) only [bs_pI, cc_pI, cs_pI, sh_pI, gR_pI, eI_pI, eR_pI, eL_pI, bs_pR, cc_pR, cs_pR, sh_pR, gI_pR, eI_pR, eR_pR, eL_pR, bs_uI, cc_uI, cs_uI, sh_uI, gI_uI, gR_uI, eR_uI, eL_uI, bs_uR, cc_uR, cs_uR, sh_uR, gI_uR, gR_uR, eI_uR, eL_uR, bs_uL, cc_uL, cs_uL, sh_uL, gI_uL, gR_uL, eI_uL, eR_uL, gI_s, gI_d, gR_s, gR_d, eI_s, eI_d, eI_e, eR_s, eR_d, eR_e, eL_s, eL_d, bs_bump, cc_bump, cs_bump, sh_bump, gI_bump, gR_bump, eI_bump, eR_bump, eL_bump]
  · have hk := hk1 h0
    rw [if_neg (show ¬ nI (decide (0 < f)).toNat = 0 by rw [decide_eq_true (by omega)]; decide)]
    exact hk.at hM0
theorem q_group {x y : Int32} (hM : MR σ A S) (hu : Uq S.2.2.2) (hb : Rb S.2.2.2) (hkA : (x < 0 ∨ ¬ x ≤ 456975) ∨ (y < 0 ∨ ¬ y ≤ 456975) → Aft σ A S 1 (K (.inl (some (.int (nI 0)))))) (hk : ∀ i m, i < 456976 → m < 456976 → x = nI i → y = nI m → (gpBad S.2.2.2 i m → Aft σ A S 1 (K (.inl (some (.int (nI 0)))))) ∧ (¬ gpBad S.2.2.2 i m → gpFull S.2.2.2 i → Aft σ A S 2 (K (.inl (some (.int (nI 0)))))) ∧ (¬ gpBad S.2.2.2 i m → ¬ gpFull S.2.2.2 i → Aft σ A (uR' S (gpR S.2.2.2 i m)) 0 (K (.inl (some (.int (nI (gpN S.2.2.2 i)))))))) : PW (d + 2) M_Mod_group 0 [.ref A, .int x, .int y, uu, uu] [] σ K := by
  have hz := hM.1
  have ho := hM.2.2.1
  have o2 := ho.2.1
  have bad : Aft σ A S 1 (K (.inl (some (.int (nI 0))))) → PW (d + 2) M_Mod_group 23 [.ref A, .int x, .int y, uu, uu] [] σ K := by
    intro q
    refine e_Mod_group_23 A _ _ (e_Mod_group_24 A _ _ _ ?_)
    rw [if_pos rfl]
    refine e_Mod_group_38 A _ _ _ _ ?_
    rw [if_pos rfl]
    refine e_Mod_group_83 A _ _ _ (e_Mod_group_84 A _ _ _ _ ?_)
    rw [if_pos rfl]
    refine e_Mod_group_129 A _ _ _ _ _ ⟨hz.1, c_refused (n := 1) hz (by omega) ?_⟩
    simp only [kI_i]
    rw [if_neg (by decide)]
    exact q.at hM
  refine e_Mod_group_0 A _ _ (c_isCode (fun i hi ei => ?_) (fun q => ?_))
  · simp only [kI_i]
    rw [if_neg (by decide)]
    refine c_isCode (fun m hm em => ?_) (fun q => ?_)
    · simp only [kI_i]
      rw [if_neg (by decide)]
      subst ei em
      obtain ⟨k1, k2, k3⟩ := hk i m hi hm rfl rfl
      by_cases him : i = m
      · rw [if_pos (by rw [him])]
        exact bad (k1 (Or.inl him))
      · rw [if_neg (fun q => him ((nI_eq_iff (by omega) (by omega)).mp q))]
        refine e_Mod_group_24 A _ _ _ ?_
        rw [if_neg (by decide)]
        refine ⟨hz.1, c_routeAt hz ho hu hb hi ?_⟩
        simp only [kI_i]
        refine e_Mod_group_38 A _ _ _ _ ?_
        rw [if_neg (by decide)]
        have bad2 : ∀ σ', MR σ' A S → Fr (gP A) σ σ' → gpBad S.2.2.2 i m → PW (d + 2) M_Mod_group 83 [.ref A, .int (nI i), .int (nI m), uu, .int (if rix S.2.2.2 i < S.2.2.2.length then nI (rix S.2.2.2 i) else m1)] [] σ' K := by
          intro σ' hM' hf' q
          refine e_Mod_group_83 A _ _ _ (e_Mod_group_84 A _ _ _ _ ?_)
          rw [if_pos rfl]
          exact group_end (d := d + 1) hM' (f := 1) (by omega) (fun q => absurd q (by decide)) (fun q => absurd q (by decide)) (fun _ => (k1 q).tr hf')
        have go : (rix S.2.2.2 i < S.2.2.2.length → (S.2.2.2.getD (rix S.2.2.2 i) r0).2.2.2 ≠ []) → PW (d + 2) M_Mod_group 60 [.ref A, .int (nI i), .int (nI m), uu, .int (if rix S.2.2.2 i < S.2.2.2.length then nI (rix S.2.2.2 i) else m1)] [] σ K := by
          intro hgr
          refine e_Mod_group_60 A _ _ _ ⟨hz.1, c_hasMember hz ho hb hm (fun b hbb => ?_)⟩
          simp only [kI_i]
          cases b with
          | true =>
            rw [if_neg (by decide)]
            have := hbb.mp rfl
            exact bad2 σ hM Fr.rf (Or.inr (Or.inr ⟨this.1, Or.inr this.2⟩))
          | false =>
            rw [if_pos (by decide)]
            refine ⟨hz.1, c_leads hz ho hu hb hm hi (fun σ' b2 hb2 f2 => ?_)⟩
            have hM' : MR σ' A S := hM.sc (f2.mo (fun f q => q.elim) (fun a j q => by unfold seP at q; unfold scP; omega))
            have hf' : Fr (gP A) σ σ' := f2.fr (fun a j q => by unfold seP at q; unfold gP; omega)
            have hz' := hM'.1
            have ho' := hM'.2.2.1
            simp only [kI_i]
            cases b2 with
            | true =>
              rw [if_neg (by decide)]
              exact bad2 σ' hM' hf' (Or.inr (Or.inl (hb2.mp rfl)))
            | false =>
              rw [if_pos (by decide)]
              have nb : ¬ gpBad S.2.2.2 i m := by
                rintro (q | q | ⟨q1, q | q⟩)
                · exact him q
                · exact absurd (hb2.mpr q) (by decide)
                · exact hgr q1 q
                · exact absurd (hbb.mpr ⟨q1, q⟩) (by decide)
              have fin : ∀ f, f ≤ 2 → (f = 0 → ¬ gpFull S.2.2.2 i) → (f ≠ 0 → f = 2 ∧ gpFull S.2.2.2 i) → PW (d + 2) M_Mod_group 129 [.ref A, .int (nI i), .int (nI m), uu, .int (if rix S.2.2.2 i < S.2.2.2.length then nI (rix S.2.2.2 i) else m1)] [.int (nI f), .ref A] σ' K := by
                intro f f1 f2 f3
                refine group_end (d := d + 1) hM' f1 (fun q => ⟨fun q1 => ⟨hgr q1, ?_⟩, fun q1 => ?_⟩) (fun q => (k3 nb (f2 q)).tr hf') (fun q => ?_)
                · have h4 := (hb _ q1).2.2.2.1
                  by_cases h5 : (S.2.2.2.getD (rix S.2.2.2 i) r0).2.2.2.length = 4
                  · exact absurd (Or.inr ⟨q1, h5⟩) (f2 q)
                  · omega
                · by_cases h5 : S.2.2.2.length = 12
                  · exact absurd (Or.inl ⟨q1, h5⟩) (f2 q)
                  · omega
                · obtain ⟨e2, q2⟩ := f3 q
                  subst e2
                  exact (k2 nb q2).tr hf'
              refine e_Mod_group_84 A _ _ _ _ ?_
              rw [if_neg (by decide)]
              by_cases hr : rix S.2.2.2 i < S.2.2.2.length
              · rw [if_pos hr] at fin ⊢
                obtain ⟨b1, b2, b3, b4, b5, b6⟩ := ho'.2.2 _ hr
                rw [if_pos (show (0 : Int32) ≤ nI (rix S.2.2.2 i) from (nI_le_iff (a := 0) (by decide) (by omega)).mpr (by omega))]
                refine e_Mod_group_108 A _ _ _ _ ?_
                rw [if_neg (nI_lt0 (by omega))]
                refine ⟨hz'.1, A + 12, z_717 hz', 12, s_717 hz', in_n (by omega) (by decide), ?_⟩
                rw [ix_n (by omega), b4]
                by_cases h4 : (S.2.2.2.getD (rix S.2.2.2 i) r0).2.2.2.length = 4
                · rw [if_pos (by rw [h4]; rfl)]
                  exact e_Mod_group_124 A _ _ _ _ (fin 2 (by omega) (fun q => absurd q (by decide)) (fun _ => ⟨rfl, Or.inr ⟨hr, h4⟩⟩))
                · rw [if_neg (show ¬ nI (S.2.2.2.getD (rix S.2.2.2 i) r0).2.2.2.length = (4 : Int32) from fun q => h4 ((nI_eq_iff (b := 4) (by omega) (by omega)).mp q))]
                  refine e_Mod_group_128 A _ _ _ _ (fin 0 (by omega) (fun _ q => ?_) (fun q => absurd rfl q))
                  rcases q with q | q
                  · exact q.1 hr
                  · exact h4 q.2
              · rw [if_neg hr] at fin ⊢
                rw [if_neg (by decide)]
                refine ⟨hz'.1, ?_⟩
                rw [ho'.1]
                by_cases hl : S.2.2.2.length = 12
                · rw [if_pos (by rw [hl]; rfl)]
                  exact e_Mod_group_124 A _ _ _ _ (fin 2 (by omega) (fun q => absurd q (by decide)) (fun _ => ⟨rfl, Or.inl ⟨hr, hl⟩⟩))
                · rw [if_neg (show ¬ nI S.2.2.2.length = (12 : Int32) from fun q => hl ((nI_eq_iff (b := 12) (by omega) (by omega)).mp q))]
                  refine e_Mod_group_108 A _ _ _ _ ?_
                  rw [if_pos (by decide)]
                  refine e_Mod_group_128 A _ _ _ _ (fin 0 (by omega) (fun _ q => ?_) (fun q => absurd rfl q))
                  rcases q with q | q
                  · exact hl q.2
                  · exact hr q.1
        by_cases hr : rix S.2.2.2 i < S.2.2.2.length
        · rw [if_pos hr] at bad2 go ⊢
          rw [if_neg (nI_lt0 (by omega))]
          obtain ⟨b1, b2, -⟩ := ho.2.2 _ hr
          refine ⟨hz.1, A + 9, z_714 hz, 12, s_714 hz, in_n (by omega) (by decide), ?_⟩
          rw [ix_n (by omega), b2]
          by_cases hg : (S.2.2.2.getD (rix S.2.2.2 i) r0).2.2.2 = []
          · rw [if_pos hg, if_neg (by decide)]
            exact bad2 σ hM Fr.rf (Or.inr (Or.inr ⟨hr, Or.inl hg⟩))
          · rw [if_neg hg, if_pos (show nI 2 = (2 : Int32) by decide)]
            exact go (fun _ => hg)
        · rw [if_neg hr] at bad2 go ⊢
          rw [if_pos (by decide)]
          exact go (fun q => absurd q hr)
    · simp only [kI_i]
      rw [if_pos (by decide)]
      exact bad (hkA (Or.inr q))
  · simp only [kI_i]
    rw [if_pos (by decide)]
    exact bad (hkA (Or.inl q))
end Mod7
