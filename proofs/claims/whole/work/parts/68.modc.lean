/-! ===== the reference: write, toSigns ===== -/
def OT (σ : PH) (A : Nat) (zs : List Nat) : Prop := gI σ 754 A = nI zs.length ∧ ∀ i, i < zs.length → eI σ (A + 39) i = nI (zs.getD i 0)
def wrF (f : Nat) : Prop := f = 754
def wrP (A a _j : Nat) : Prop := a = A + 39
theorem drop_getN {xs : List Nat} {a : Nat} (h : a < xs.length) : xs.drop a = xs.getD a 0 :: xs.drop (a + 1) := by
  rw [List.drop_eq_getElem_cons h, List.getD_eq_getElem?_getD, List.getElem?_eq_getElem h]; rfl
theorem len_of {zs rest Z : List Nat} (h : zs ++ rest = Z) : zs.length + rest.length = Z.length := by rw [← h, List.length_append]
section ModC
variable {d : Nat} {σ : PH} {K : PO → PH → Prop} {A : Nat} {S : SP} {zs : List Nat}
theorem c_put {v : Nat} (hz : MZ σ A) (ho : OT σ A zs) (hl : zs.length < 250) (hv : v < 65536) (hk : ∀ σ', MZ σ' A → OT σ' A (zs ++ [v]) → MF wrF (wrP A) A σ σ' → K (.inl none) σ') : PW d M_Mod_put 0 [.ref A, .int (nI v)] [] σ K := by
  obtain ⟨o1, o2⟩ := ho
  refine e_Mod_put_0 A _ ?_
  simp (disch := omega) only [bs_pI, cc_pI, cs_pI, sh_pI, gR_pI, eI_pI, eR_pI, eL_pI, bs_pR, cc_pR, cs_pR, sh_pR, gI_pR, eI_pR, eR_pR, eL_pR, bs_uI, cc_uI, cs_uI, sh_uI, gI_uI, gR_uI, eR_uI, eL_uI, bs_uR, cc_uR, cs_uR, sh_uR, gI_uR, gR_uR, eI_uR, eL_uR, bs_uL, cc_uL, cs_uL, sh_uL, gI_uL, gR_uL, eI_uL, eR_uL, gI_s, gI_d, gR_s, gR_d, eI_s, eI_d, eI_e, eR_s, eR_d, eR_e, eL_s, eL_d, bs_bump, cc_bump, cs_bump, sh_bump, gI_bump, gR_bump, eI_bump, eR_bump, eL_bump, l_0, l_1, l_2, l_3, l_4, l_5, l_6, l_7, l_8, l_9, l_10, l_11, l_12, l_13, l_14, l_15, l_16, l_17, l_18, l_19, l_20, l_21, l_22, l_23, l_24, l_25, l_26, l_27, l_28, l_29, l_30, l_31, l_32, l_33, l_34, l_35, l_36, l_37, l_38, l_39, l_40, l_41, l_42, l_43, l_44, l_45, l_46, l_47, l_48, l_49, l_50, l_51, l_52, l_53, l_54, l_55, l_56, l_57, l_58, l_59, l_60, l_61, l_62, l_63, l_64, l_65, l_66, l_67, l_68, l_69, l_70, l_71, l_72, l_73, l_74, l_75, l_76, l_77, l_78, l_79, l_80, l_81, l_82, l_83, l_84, l_85, l_86, l_87, l_88, l_89, l_90, l_91, l_92, l_93, l_94, l_95, l_96, l_97, l_98, l_99, l_100, l_101, l_102, l_103, l_104, l_105, l_106, l_107, l_108, l_109, l_110, l_111, l_112, l_113, l_114, l_115, l_116, l_117, l_118, l_119, l_120, l_121, l_122, l_123, l_124, l_125, l_126, l_127, l_128, l_129, l_130, l_256, l_512, l_676, l_704, l_999, l_1000, l_4096, l_17576, l_32768, l_65535, l_456975, l_456976, l_m1, l_m2, in_iff, eq_m1, m1_eq, m1_lt, m1_le, le_m1, lt_m1, eq_m2, m2_m1, m1_m2, add_m1, m1_add, sub_n, mul_n, add_n, bo_n0, bo_n1, ch_n, lt_n, le_n, eq_n, ix_n, i2c_n, rem_n, div_n, kI_i, kI_x, kV_v, kV_x, kR_r, kR_n, kR_x, kHI_i, kHI_0, kHI_1, kHV_v, kHV_0, kHV_1, va_s, va_n, exists_eq_left', exists_eq_left, forall_eq, forall_eq', and_true, true_and, and_self, Option.some.injEq, Prod.mk.injEq, if_tt, if_ff, reduceIte, reduceCtorEq, not_true_eq_false, not_false_eq_true, Nat.reduceAdd, Nat.reduceMul, Nat.reduceSub, Nat.reduceLT, Nat.reduceLeDiff, Nat.reduceEqDiff, false_implies, true_implies, implies_true, hz.1, z_755 hz, s_755 hz, o1]
  have f1 : MF wrF (wrP A) A σ (pI (uI σ (A + 39) zs.length (nI v)) 754 A (nI (zs.length + 1))) := (MF.uI (show wrP A (A + 39) _ from rfl)).tr (MF.pI (show wrF 754 from rfl))
  refine ⟨by omega, hk _ (f1.z hz) ⟨by simp only [bs_pI, cc_pI, cs_pI, sh_pI, gR_pI, eI_pI, eR_pI, eL_pI, bs_pR, cc_pR, cs_pR, sh_pR, gI_pR, eI_pR, eR_pR, eL_pR, bs_uI, cc_uI, cs_uI, sh_uI, gI_uI, gR_uI, eR_uI, eL_uI, bs_uR, cc_uR, cs_uR, sh_uR, gI_uR, gR_uR, eI_uR, eL_uR, bs_uL, cc_uL, cs_uL, sh_uL, gI_uL, gR_uL, eI_uL, eR_uL, gI_s, gI_d, gR_s, gR_d, eI_s, eI_d, eI_e, eR_s, eR_d, eR_e, eL_s, eL_d, bs_bump, cc_bump, cs_bump, sh_bump, gI_bump, gR_bump, eI_bump, eR_bump, eL_bump]; rw [List.length_append, List.length_singleton], fun i hi => ?_⟩ f1⟩
  rw [List.length_append, List.length_singleton] at hi
  rw [getD_snoc]
  by_cases h : i < zs.length
  · rw [if_pos h]; simp (disch := omega) only [bs_pI, cc_pI, cs_pI, sh_pI, gR_pI, eI_pI, eR_pI, eL_pI, bs_pR, cc_pR, cs_pR, sh_pR, gI_pR, eI_pR, eR_pR, eL_pR, bs_uI, cc_uI, cs_uI, sh_uI, gI_uI, gR_uI, eR_uI, eL_uI, bs_uR, cc_uR, cs_uR, sh_uR, gI_uR, gR_uR, eI_uR, eL_uR, bs_uL, cc_uL, cs_uL, sh_uL, gI_uL, gR_uL, eI_uL, eR_uL, gI_s, gI_d, gR_s, gR_d, eI_s, eI_d, eI_e, eR_s, eR_d, eR_e, eL_s, eL_d, bs_bump, cc_bump, cs_bump, sh_bump, gI_bump, gR_bump, eI_bump, eR_bump, eL_bump]; exact o2 i h
  · have hi : i = zs.length := by omega
    subst hi
    rw [if_neg h, if_pos rfl]; simp (disch := omega) only [bs_pI, cc_pI, cs_pI, sh_pI, gR_pI, eI_pI, eR_pI, eL_pI, bs_pR, cc_pR, cs_pR, sh_pR, gI_pR, eI_pR, eR_pR, eL_pR, bs_uI, cc_uI, cs_uI, sh_uI, gI_uI, gR_uI, eR_uI, eL_uI, bs_uR, cc_uR, cs_uR, sh_uR, gI_uR, gR_uR, eI_uR, eL_uR, bs_uL, cc_uL, cs_uL, sh_uL, gI_uL, gR_uL, eI_uL, eR_uL, gI_s, gI_d, gR_s, gR_d, eI_s, eI_d, eI_e, eR_s, eR_d, eR_e, eL_s, eL_d, bs_bump, cc_bump, cs_bump, sh_bump, gI_bump, gR_bump, eI_bump, eR_bump, eL_bump]
theorem c_putDigits {n : Nat} (hz : MZ σ A) (ho : OT σ A zs) (hl : zs.length < 240) (hn : n < 1000) (hk : ∀ σ', MZ σ' A → OT σ' A (zs ++ dig3 n) → MF wrF (wrP A) A σ σ' → K (.inl none) σ') : PW (d + 1) M_Mod_putDigits 0 [.ref A, .int (nI n)] [] σ K := by
  refine e_Mod_putDigits_0 A _ ?_
  simp (disch := omega) only [l_0, l_1, l_2, l_3, l_4, l_5, l_6, l_7, l_8, l_9, l_10, l_11, l_12, l_13, l_14, l_15, l_16, l_17, l_18, l_19, l_20, l_21, l_22, l_23, l_24, l_25, l_26, l_27, l_28, l_29, l_30, l_31, l_32, l_33, l_34, l_35, l_36, l_37, l_38, l_39, l_40, l_41, l_42, l_43, l_44, l_45, l_46, l_47, l_48, l_49, l_50, l_51, l_52, l_53, l_54, l_55, l_56, l_57, l_58, l_59, l_60, l_61, l_62, l_63, l_64, l_65, l_66, l_67, l_68, l_69, l_70, l_71, l_72, l_73, l_74, l_75, l_76, l_77, l_78, l_79, l_80, l_81, l_82, l_83, l_84, l_85, l_86, l_87, l_88, l_89, l_90, l_91, l_92, l_93, l_94, l_95, l_96, l_97, l_98, l_99, l_100, l_101, l_102, l_103, l_104, l_105, l_106, l_107, l_108, l_109, l_110, l_111, l_112, l_113, l_114, l_115, l_116, l_117, l_118, l_119, l_120, l_121, l_122, l_123, l_124, l_125, l_126, l_127, l_128, l_129, l_130, l_256, l_512, l_676, l_704, l_999, l_1000, l_4096, l_17576, l_32768, l_65535, l_456975, l_456976, l_m1, l_m2, in_iff, eq_m1, m1_eq, m1_lt, m1_le, le_m1, lt_m1, eq_m2, m2_m1, m1_m2, add_m1, m1_add, sub_n, mul_n, add_n, bo_n0, bo_n1, ch_n, lt_n, le_n, eq_n, ix_n, i2c_n, rem_n, div_n]
  refine ⟨hz.1, c_put hz ho (by omega) (by omega) (fun σ1 z1 o1 f1 => ?_)⟩
  simp only [kV_v]
  refine ⟨z1.1, c_put z1 o1 (by rw [List.length_append]; simp; omega) (by omega) (fun σ2 z2 o2 f2 => ?_)⟩
  simp only [kV_v]
  refine ⟨z2.1, c_put z2 o2 (by rw [List.length_append, List.length_append]; simp; omega) (by omega) (fun σ3 z3 o3 f3 => ?_)⟩
  simp only [kV_v]
  refine hk σ3 z3 ?_ ((f1.tr f2).tr f3)
  have e : dig3 n = [48 + n / 100] ++ [48 + (n / 10 - n / 10 / 10 * 10)] ++ [48 + (n - n / 10 * 10)] := by
    unfold dig3
    rw [show n / 100 % 10 = n / 100 by omega, show n / 10 % 10 = n / 10 - n / 10 / 10 * 10 by omega, show n % 10 = n - n / 10 * 10 by omega]
    rfl
  rw [e, ← List.append_assoc, ← List.append_assoc]
  exact o3
/-- the channel's message as it is kept -/
def WRT (σ : PH) (A m : Nat) (x : MS) : Prop := eI σ (A + 14) m = nI x.1 ∧ eI σ (A + 15) m = nI x.2.1.length ∧ (∀ k, k < x.2.1.length → eI σ (A + 16) (4 * m + k) = nI (x.2.1.getD k 0)) ∧ eI σ (A + 17) m = nI x.2.2.1.length ∧ ∀ k, k < x.2.2.1.length → eI σ (A + 18) (64 * m + k) = nI (x.2.2.1.getD k 0)
theorem WRT.p1 {m : Nat} {x : MS} (h : WRT σ A m x) : eI σ (A + 14) m = nI x.1 := h.1
theorem WRT.p2 {m : Nat} {x : MS} (h : WRT σ A m x) : eI σ (A + 15) m = nI x.2.1.length := h.2.1
theorem WRT.p3 {m : Nat} {x : MS} (h : WRT σ A m x) : ∀ k, k < x.2.1.length → eI σ (A + 16) (4 * m + k) = nI (x.2.1.getD k 0) := h.2.2.1
theorem WRT.p4 {m : Nat} {x : MS} (h : WRT σ A m x) : eI σ (A + 17) m = nI x.2.2.1.length := h.2.2.2.1
theorem WRT.p5 {m : Nat} {x : MS} (h : WRT σ A m x) : ∀ k, k < x.2.2.1.length → eI σ (A + 18) (64 * m + k) = nI (x.2.2.1.getD k 0) := h.2.2.2.2
theorem WRT.mf {σ' : PH} {m : Nat} {x : MS} (h : WRT σ A m x) (hf : MF wrF (wrP A) A σ σ') : WRT σ' A m x :=
  ⟨by rw [hf.eI (by unfold wrP; omega)]; exact h.p1, by rw [hf.eI (by unfold wrP; omega)]; exact h.p2, fun k hk => by rw [hf.eI (by unfold wrP; omega)]; exact h.p3 k hk, by rw [hf.eI (by unfold wrP; omega)]; exact h.p4, fun k hk => by rw [hf.eI (by unfold wrP; omega)]; exact h.p5 k hk⟩
theorem write_end {Z : List Nat} {σ0 : PH} (hZ : Z.length < 200) (hk : ∀ σ', MZ σ' A → OT σ' A Z → MF wrF (wrP A) A σ0 σ' → K (.inl none) σ') : ∀ (n k : Nat) (σ : PH) (zs : List Nat), k + n = 4 → MZ σ A → OT σ A zs → zs ++ List.replicate n 78 ++ [10] = Z → MF wrF (wrP A) A σ0 σ → PW (d + 1) M_Mod_write 231 [.ref A, uu, uu, .int (nI k), uu] [] σ K := by
  intro n
  induction n with
  | zero =>
    intro k σ zs hkn hz ho hZe hf
    have hk4 : k = 4 := by omega
    subst hk4
    refine e_Mod_write_231 A _ ?_
    rw [if_pos (by decide)]
    have hl := len_of hZe
    rw [List.replicate_zero, List.append_nil] at hZe hl
    refine ⟨hz.1, c_put (v := 10) hz ho (by omega) (by decide) (fun σ1 z1 o1 f1 => ?_)⟩
    simp only [kV_v]
    rw [hZe] at o1
    exact hk σ1 z1 o1 (hf.tr f1)
  | succ n ih =>
    intro k σ zs hkn hz ho hZe hf
    refine e_Mod_write_231 A _ ?_
    rw [if_neg (show ¬ (4 : Int32) ≤ nI k from fun q => by have := (nI_le_iff (a := 4) (by decide) (by omega)).mp q; omega)]
    have hl := len_of hZe
    rw [List.length_append] at hl
    refine ⟨hz.1, c_put (v := 78) hz ho (by omega) (by decide) (fun σ1 z1 o1 f1 => ?_)⟩
    simp only [kV_v]
    rw [nI_1]
    refine ih (k + 1) σ1 (zs ++ [78]) (by omega) z1 o1 ?_ (hf.tr f1)
    rw [← hZe, List.replicate_succ]
    simp
theorem write_body {m : Nat} {x : MS} {pre Z : List Nat} {σ0 : PH} (hm : m < 11) (hb : x.2.2.1.length ≤ 60) (hc : ∀ v ∈ x.2.2.1, v < 128) (hZ : Z.length < 200) (hZe : pre ++ tBody x.2.2.1 ++ [78, 78, 78, 78, 10] = Z) (hk : ∀ σ', MZ σ' A → OT σ' A Z → MF wrF (wrP A) A σ0 σ' → K (.inl none) σ') : ∀ (n k : Nat) (σ : PH) (zs : List Nat), k + n = x.2.2.1.length → MZ σ A → WRT σ A m x → OT σ A zs → zs ++ x.2.2.1.drop k = pre ++ x.2.2.1 → MF wrF (wrP A) A σ0 σ → PW (d + 1) M_Mod_write 167 [.ref A, uu, .int (nI m), .int (nI k), uu] [] σ K := by
  have hpl : pre.length + x.2.2.1.length < 200 := by
    have := len_of hZe
    rw [List.length_append] at this
    have h2 : x.2.2.1.length ≤ (tBody x.2.2.1).length := by unfold tBody; split <;> simp
    omega
  have fin : ∀ σ zs, MZ σ A → OT σ A zs → zs = pre ++ tBody x.2.2.1 → MF wrF (wrP A) A σ0 σ → PW (d + 1) M_Mod_write 229 [.ref A, uu, uu, uu, uu] [] σ K := by
    intro σ zs hz ho he hf
    refine e_Mod_write_229 A (write_end (σ0 := σ0) hZ hk 4 0 σ zs (by omega) hz ho ?_ hf)
    rw [he, ← hZe]
    simp
  intro n
  induction n with
  | zero =>
    intro k σ zs hkn hz hw ho he hf
    have hkl : k = x.2.2.1.length := by omega
    subst hkl
    rw [List.drop_length, List.append_nil] at he
    subst he
    refine e_Mod_write_167 A _ _ ⟨hz.1, A + 17, z_723 hz, 11, s_723 hz, in_n (by omega) (by decide), ?_⟩
    rw [ix_n (by omega), hw.p4, if_pos ((nI_le_iff (by omega) (by omega)).mpr (by omega))]
    refine ⟨in_n (by omega) (by decide), ?_⟩
    by_cases h0 : x.2.2.1.length ≤ 0
    · rw [if_pos (show nI x.2.2.1.length ≤ 0 from (nI_le_iff (b := 0) (by omega) (by decide)).mpr h0)]
      refine fin σ _ hz ho ?_ hf
      unfold tBody
      rw [if_neg (fun q => q.1 (List.eq_nil_of_length_eq_zero (by omega)))]
    · rw [if_neg (show ¬ nI x.2.2.1.length ≤ 0 from fun q => h0 ((nI_le_iff (b := 0) (by omega) (by decide)).mp q))]
      have hne : x.2.2.1 ≠ [] := fun q => h0 (by rw [q]; simp)
      have hlast : eI σ (A + 39) (pre.length + x.2.2.1.length - 1) = nI (x.2.2.1.getD (x.2.2.1.length - 1) 0) := by
        rw [ho.2 _ (by rw [List.length_append]; omega)]
        congr 1
        rw [List.getD_eq_getElem?_getD, List.getD_eq_getElem?_getD, List.getElem?_append_right (by omega)]
        rw [show pre.length + x.2.2.1.length - 1 - pre.length = x.2.2.1.length - 1 by omega]
      have hlt := getD_lt hc (x.2.2.1.length - 1)
      have ho1 := ho.1
      rw [List.length_append] at ho1
      rw [ho1]
      simp (disch := omega) only [bs_pI, cc_pI, cs_pI, sh_pI, gR_pI, eI_pI, eR_pI, eL_pI, bs_pR, cc_pR, cs_pR, sh_pR, gI_pR, eI_pR, eR_pR, eL_pR, bs_uI, cc_uI, cs_uI, sh_uI, gI_uI, gR_uI, eR_uI, eL_uI, bs_uR, cc_uR, cs_uR, sh_uR, gI_uR, gR_uR, eI_uR, eL_uR, bs_uL, cc_uL, cs_uL, sh_uL, gI_uL, gR_uL, eI_uL, eR_uL, gI_s, gI_d, gR_s, gR_d, eI_s, eI_d, eI_e, eR_s, eR_d, eR_e, eL_s, eL_d, bs_bump, cc_bump, cs_bump, sh_bump, gI_bump, gR_bump, eI_bump, eR_bump, eL_bump, l_0, l_1, l_2, l_3, l_4, l_5, l_6, l_7, l_8, l_9, l_10, l_11, l_12, l_13, l_14, l_15, l_16, l_17, l_18, l_19, l_20, l_21, l_22, l_23, l_24, l_25, l_26, l_27, l_28, l_29, l_30, l_31, l_32, l_33, l_34, l_35, l_36, l_37, l_38, l_39, l_40, l_41, l_42, l_43, l_44, l_45, l_46, l_47, l_48, l_49, l_50, l_51, l_52, l_53, l_54, l_55, l_56, l_57, l_58, l_59, l_60, l_61, l_62, l_63, l_64, l_65, l_66, l_67, l_68, l_69, l_70, l_71, l_72, l_73, l_74, l_75, l_76, l_77, l_78, l_79, l_80, l_81, l_82, l_83, l_84, l_85, l_86, l_87, l_88, l_89, l_90, l_91, l_92, l_93, l_94, l_95, l_96, l_97, l_98, l_99, l_100, l_101, l_102, l_103, l_104, l_105, l_106, l_107, l_108, l_109, l_110, l_111, l_112, l_113, l_114, l_115, l_116, l_117, l_118, l_119, l_120, l_121, l_122, l_123, l_124, l_125, l_126, l_127, l_128, l_129, l_130, l_256, l_512, l_676, l_704, l_999, l_1000, l_4096, l_17576, l_32768, l_65535, l_456975, l_456976, l_m1, l_m2, in_iff, eq_m1, m1_eq, m1_lt, m1_le, le_m1, lt_m1, eq_m2, m2_m1, m1_m2, add_m1, m1_add, sub_n, mul_n, add_n, bo_n0, bo_n1, ch_n, lt_n, le_n, eq_n, ix_n, i2c_n, rem_n, div_n, kI_i, kI_x, kV_v, kV_x, kR_r, kR_n, kR_x, kHI_i, kHI_0, kHI_1, kHV_v, kHV_0, kHV_1, va_s, va_n, exists_eq_left', exists_eq_left, forall_eq, forall_eq', and_true, true_and, and_self, Option.some.injEq, Prod.mk.injEq, if_tt, if_ff, reduceIte, reduceCtorEq, not_true_eq_false, not_false_eq_true, Nat.reduceAdd, Nat.reduceMul, Nat.reduceSub, Nat.reduceLT, Nat.reduceLeDiff, Nat.reduceEqDiff, false_implies, true_implies, implies_true, hz.1, z_755 hz, s_755 hz]
      rw [hlast]
      refine ⟨by omega, ?_⟩
      simp (disch := omega) only [eq_n]
      by_cases h10 : x.2.2.1.getD (x.2.2.1.length - 1) 0 = 10
      · rw [if_pos h10]
        refine fin σ _ hz ho ?_ hf
        unfold tBody
        rw [if_neg (fun q => q.2 h10)]
      · rw [if_neg h10]
        refine c_put (v := 10) hz ho (by rw [List.length_append]; omega) (by decide) (fun σ1 z1 o1 f1 => ?_)
        simp only [kV_v]
        refine fin σ1 _ z1 o1 ?_ (hf.tr f1)
        unfold tBody
        rw [if_pos ⟨hne, h10⟩, List.append_assoc]
  | succ n ih =>
    intro k σ zs hkn hz hw ho he hf
    have hlt := getD_lt hc k
    have hl := len_of he
    rw [List.length_append, List.length_drop] at hl
    refine e_Mod_write_167 A _ _ ⟨hz.1, A + 17, z_723 hz, 11, s_723 hz, in_n (by omega) (by decide), ?_⟩
    rw [ix_n (by omega), hw.p4, if_neg (fun q => by have := (nI_le_iff (by omega) (by omega)).mp q; omega)]
    simp (disch := omega) only [bs_pI, cc_pI, cs_pI, sh_pI, gR_pI, eI_pI, eR_pI, eL_pI, bs_pR, cc_pR, cs_pR, sh_pR, gI_pR, eI_pR, eR_pR, eL_pR, bs_uI, cc_uI, cs_uI, sh_uI, gI_uI, gR_uI, eR_uI, eL_uI, bs_uR, cc_uR, cs_uR, sh_uR, gI_uR, gR_uR, eI_uR, eL_uR, bs_uL, cc_uL, cs_uL, sh_uL, gI_uL, gR_uL, eI_uL, eR_uL, gI_s, gI_d, gR_s, gR_d, eI_s, eI_d, eI_e, eR_s, eR_d, eR_e, eL_s, eL_d, bs_bump, cc_bump, cs_bump, sh_bump, gI_bump, gR_bump, eI_bump, eR_bump, eL_bump, l_0, l_1, l_2, l_3, l_4, l_5, l_6, l_7, l_8, l_9, l_10, l_11, l_12, l_13, l_14, l_15, l_16, l_17, l_18, l_19, l_20, l_21, l_22, l_23, l_24, l_25, l_26, l_27, l_28, l_29, l_30, l_31, l_32, l_33, l_34, l_35, l_36, l_37, l_38, l_39, l_40, l_41, l_42, l_43, l_44, l_45, l_46, l_47, l_48, l_49, l_50, l_51, l_52, l_53, l_54, l_55, l_56, l_57, l_58, l_59, l_60, l_61, l_62, l_63, l_64, l_65, l_66, l_67, l_68, l_69, l_70, l_71, l_72, l_73, l_74, l_75, l_76, l_77, l_78, l_79, l_80, l_81, l_82, l_83, l_84, l_85, l_86, l_87, l_88, l_89, l_90, l_91, l_92, l_93, l_94, l_95, l_96, l_97, l_98, l_99, l_100, l_101, l_102, l_103, l_104, l_105, l_106, l_107, l_108, l_109, l_110, l_111, l_112, l_113, l_114, l_115, l_116, l_117, l_118, l_119, l_120, l_121, l_122, l_123, l_124, l_125, l_126, l_127, l_128, l_129, l_130, l_256, l_512, l_676, l_704, l_999, l_1000, l_4096, l_17576, l_32768, l_65535, l_456975, l_456976, l_m1, l_m2, in_iff, eq_m1, m1_eq, m1_lt, m1_le, le_m1, lt_m1, eq_m2, m2_m1, m1_m2, add_m1, m1_add, sub_n, mul_n, add_n, bo_n0, bo_n1, ch_n, lt_n, le_n, eq_n, ix_n, i2c_n, rem_n, div_n, kI_i, kI_x, kV_v, kV_x, kR_r, kR_n, kR_x, kHI_i, kHI_0, kHI_1, kHV_v, kHV_0, kHV_1, va_s, va_n, exists_eq_left', exists_eq_left, forall_eq, forall_eq', and_true, true_and, and_self, Option.some.injEq, Prod.mk.injEq, if_tt, if_ff, reduceIte, reduceCtorEq, not_true_eq_false, not_false_eq_true, Nat.reduceAdd, Nat.reduceMul, Nat.reduceSub, Nat.reduceLT, Nat.reduceLeDiff, Nat.reduceEqDiff, false_implies, true_implies, implies_true, hz.1, z_724 hz, s_724 hz]
    rw [hw.p5 k (by omega)]
    refine ⟨by omega, c_put hz ho (by omega) (by omega) (fun σ1 z1 o1 f1 => ?_)⟩
    simp only [kV_v]
    refine ih (k + 1) σ1 _ (by omega) z1 (hw.mf f1) o1 ?_ (hf.tr f1)
    rw [← he, drop_getN (a := k) (by omega), List.append_assoc]
    rfl
theorem write_inds {m : Nat} {x : MS} {pre Z : List Nat} {σ0 : PH} (hm : m < 11) (hi4 : x.2.1.length ≤ 4) (hik : ∀ k ∈ x.2.1, k < 456976) (hb : x.2.2.1.length ≤ 60) (hc : ∀ v ∈ x.2.2.1, v < 128) (hZ : Z.length < 200) (hZe : pre ++ tInd x.2.1 ++ [10] ++ tBody x.2.2.1 ++ [78, 78, 78, 78, 10] = Z) (hk : ∀ σ', MZ σ' A → OT σ' A Z → MF wrF (wrP A) A σ0 σ' → K (.inl none) σ') : ∀ (n k : Nat) (σ : PH) (zs : List Nat), k + n = x.2.1.length → MZ σ A → WRT σ A m x → OT σ A zs → zs ++ tInd (x.2.1.drop k) = pre ++ tInd x.2.1 → MF wrF (wrP A) A σ0 σ → PW (d + 1) M_Mod_write 65 [.ref A, uu, .int (nI m), .int (nI k), uu] [] σ K := by
  have hpl : pre.length + 5 * x.2.1.length < 200 := by
    have := len_of hZe
    rw [List.length_append, List.length_append, List.length_append, tInd_len] at this
    omega
  intro n
  induction n with
  | zero =>
    intro k σ zs hkn hz hw ho he hf
    have hkl : k = x.2.1.length := by omega
    subst hkl
    rw [List.drop_length] at he
    have he : zs = pre ++ tInd x.2.1 := by rw [← he]; unfold tInd; rw [List.flatMap_nil, List.append_nil]
    subst he
    refine e_Mod_write_65 A _ _ ⟨hz.1, A + 15, z_721 hz, 11, s_721 hz, in_n (by omega) (by decide), ?_⟩
    rw [ix_n (by omega), hw.p2, if_pos ((nI_le_iff (by omega) (by omega)).mpr (by omega))]
    refine c_put (v := 10) hz ho (by rw [List.length_append, tInd_len]; omega) (by decide) (fun σ1 z1 o1 f1 => ?_)
    simp only [kV_v]
    exact write_body (σ0 := σ0) (x := x) hm hb hc hZ hZe hk x.2.2.1.length 0 σ1 _ (by omega) z1 (hw.mf f1) o1 rfl (hf.tr f1)
  | succ n ih =>
    intro k σ zs hkn hz hw ho he hf
    have hlt := hik _ (getD_mem (show k < x.2.1.length by omega))
    have hl := len_of he
    rw [tInd_len, List.length_append, tInd_len, List.length_drop] at hl
    refine e_Mod_write_65 A _ _ ⟨hz.1, A + 15, z_721 hz, 11, s_721 hz, in_n (by omega) (by decide), ?_⟩
    rw [ix_n (by omega), hw.p2, if_neg (fun q => by have := (nI_le_iff (by omega) (by omega)).mp q; omega)]
    refine c_put (v := 32) hz ho (by omega) (by decide) (fun σ1 z1 o1 f1 => ?_)
    have w1 := hw.mf f1
    simp (disch := omega) only [bs_pI, cc_pI, cs_pI, sh_pI, gR_pI, eI_pI, eR_pI, eL_pI, bs_pR, cc_pR, cs_pR, sh_pR, gI_pR, eI_pR, eR_pR, eL_pR, bs_uI, cc_uI, cs_uI, sh_uI, gI_uI, gR_uI, eR_uI, eL_uI, bs_uR, cc_uR, cs_uR, sh_uR, gI_uR, gR_uR, eI_uR, eL_uR, bs_uL, cc_uL, cs_uL, sh_uL, gI_uL, gR_uL, eI_uL, eR_uL, gI_s, gI_d, gR_s, gR_d, eI_s, eI_d, eI_e, eR_s, eR_d, eR_e, eL_s, eL_d, bs_bump, cc_bump, cs_bump, sh_bump, gI_bump, gR_bump, eI_bump, eR_bump, eL_bump, l_0, l_1, l_2, l_3, l_4, l_5, l_6, l_7, l_8, l_9, l_10, l_11, l_12, l_13, l_14, l_15, l_16, l_17, l_18, l_19, l_20, l_21, l_22, l_23, l_24, l_25, l_26, l_27, l_28, l_29, l_30, l_31, l_32, l_33, l_34, l_35, l_36, l_37, l_38, l_39, l_40, l_41, l_42, l_43, l_44, l_45, l_46, l_47, l_48, l_49, l_50, l_51, l_52, l_53, l_54, l_55, l_56, l_57, l_58, l_59, l_60, l_61, l_62, l_63, l_64, l_65, l_66, l_67, l_68, l_69, l_70, l_71, l_72, l_73, l_74, l_75, l_76, l_77, l_78, l_79, l_80, l_81, l_82, l_83, l_84, l_85, l_86, l_87, l_88, l_89, l_90, l_91, l_92, l_93, l_94, l_95, l_96, l_97, l_98, l_99, l_100, l_101, l_102, l_103, l_104, l_105, l_106, l_107, l_108, l_109, l_110, l_111, l_112, l_113, l_114, l_115, l_116, l_117, l_118, l_119, l_120, l_121, l_122, l_123, l_124, l_125, l_126, l_127, l_128, l_129, l_130, l_256, l_512, l_676, l_704, l_999, l_1000, l_4096, l_17576, l_32768, l_65535, l_456975, l_456976, l_m1, l_m2, in_iff, eq_m1, m1_eq, m1_lt, m1_le, le_m1, lt_m1, eq_m2, m2_m1, m1_m2, add_m1, m1_add, sub_n, mul_n, add_n, bo_n0, bo_n1, ch_n, lt_n, le_n, eq_n, ix_n, i2c_n, rem_n, div_n, kI_i, kI_x, kV_v, kV_x, kR_r, kR_n, kR_x, kHI_i, kHI_0, kHI_1, kHV_v, kHV_0, kHV_1, va_s, va_n, exists_eq_left', exists_eq_left, forall_eq, forall_eq', and_true, true_and, and_self, Option.some.injEq, Prod.mk.injEq, if_tt, if_ff, reduceIte, reduceCtorEq, not_true_eq_false, not_false_eq_true, Nat.reduceAdd, Nat.reduceMul, Nat.reduceSub, Nat.reduceLT, Nat.reduceLeDiff, Nat.reduceEqDiff, false_implies, true_implies, implies_true, z1.1, z_722 z1, s_722 z1]
    rw [w1.p3 k (by omega)]
    simp (disch := omega) only [l_0, l_1, l_2, l_3, l_4, l_5, l_6, l_7, l_8, l_9, l_10, l_11, l_12, l_13, l_14, l_15, l_16, l_17, l_18, l_19, l_20, l_21, l_22, l_23, l_24, l_25, l_26, l_27, l_28, l_29, l_30, l_31, l_32, l_33, l_34, l_35, l_36, l_37, l_38, l_39, l_40, l_41, l_42, l_43, l_44, l_45, l_46, l_47, l_48, l_49, l_50, l_51, l_52, l_53, l_54, l_55, l_56, l_57, l_58, l_59, l_60, l_61, l_62, l_63, l_64, l_65, l_66, l_67, l_68, l_69, l_70, l_71, l_72, l_73, l_74, l_75, l_76, l_77, l_78, l_79, l_80, l_81, l_82, l_83, l_84, l_85, l_86, l_87, l_88, l_89, l_90, l_91, l_92, l_93, l_94, l_95, l_96, l_97, l_98, l_99, l_100, l_101, l_102, l_103, l_104, l_105, l_106, l_107, l_108, l_109, l_110, l_111, l_112, l_113, l_114, l_115, l_116, l_117, l_118, l_119, l_120, l_121, l_122, l_123, l_124, l_125, l_126, l_127, l_128, l_129, l_130, l_256, l_512, l_676, l_704, l_999, l_1000, l_4096, l_17576, l_32768, l_65535, l_456975, l_456976, l_m1, l_m2, in_iff, eq_m1, m1_eq, m1_lt, m1_le, le_m1, lt_m1, eq_m2, m2_m1, m1_m2, add_m1, m1_add, sub_n, mul_n, add_n, bo_n0, bo_n1, ch_n, lt_n, le_n, eq_n, ix_n, i2c_n, rem_n, div_n]
    refine ⟨by omega, c_put z1 o1 (by simp; omega) (by omega) (fun σ2 z2 o2 f2 => ?_)⟩
    simp only [kV_v]
    refine ⟨z2.1, c_put z2 o2 (by simp; omega) (by omega) (fun σ3 z3 o3 f3 => ?_)⟩
    simp only [kV_v]
    refine ⟨z3.1, c_put z3 o3 (by simp; omega) (by omega) (fun σ4 z4 o4 f4 => ?_)⟩
    simp only [kV_v]
    refine ⟨z4.1, c_put z4 o4 (by simp; omega) (by omega) (fun σ5 z5 o5 f5 => ?_)⟩
    simp only [kV_v]
    refine ih (k + 1) σ5 _ (by omega) z5 ((((w1.mf f2).mf f3).mf f4).mf f5) o5 ?_ (hf.tr ((((f1.tr f2).tr f3).tr f4).tr f5))
    rw [← he, drop_getN (a := k) (by omega)]
    generalize hv : x.2.1.getD k 0 = v at *
    have e : tInd (v :: x.2.1.drop (k + 1)) = [32] ++ [65 + v / 17576] ++ [65 + (v / 676 - v / 676 / 26 * 26)] ++ [65 + (v / 26 - v / 26 / 26 * 26)] ++ [65 + (v - v / 26 * 26)] ++ tInd (x.2.1.drop (k + 1)) := by
      unfold tInd
      rw [List.flatMap_cons]
      unfold let4
      rw [show v / 17576 % 26 = v / 17576 by omega, show v / 676 % 26 = v / 676 - v / 676 / 26 * 26 by omega, show v / 26 % 26 = v / 26 - v / 26 / 26 * 26 by omega, show v % 26 = v - v / 26 * 26 by omega]
      rfl
    rw [e]
    simp only [List.append_assoc]
theorem c_write {c m n : Nat} {ag : Bool} {x : MS} (hz : MZ σ A) (hc : c < 8) (h25 : eI σ (A + 25) c = nI m) (h26 : eI σ (A + 26) c = nI n) (h27 : eI σ (A + 27) c = nI ag.toNat) (hw : WRT σ A m x) (hm : m < 11) (hn : n < 1000) (hp : x.1 ≤ 4) (hi4 : x.2.1.length ≤ 4) (hik : ∀ k ∈ x.2.1, k < 456976) (hb : x.2.2.1.length ≤ 60) (hcc : ∀ v ∈ x.2.2.1, v < 128) (hfit : 5 * x.2.1.length + x.2.2.1.length ≤ 54) (hk : ∀ σ', MZ σ' A → OT σ' A (tape x n ag) → MF wrF (wrP A) A σ σ' → K (.inl none) σ') : PW (d + 2) M_Mod_write 0 [.ref A, .int (nI c), uu, uu, uu] [] σ K := by
  have hZ : (tape x n ag).length < 200 := by have := @tape_len x n ag hfit; omega
  have f0 : MF wrF (wrP A) A σ (pI σ 754 A (nI 0)) := MF.pI (show wrF 754 from rfl)
  have z0 := f0.z hz
  refine e_Mod_write_0 A _ ⟨hz.1, A + 25, z_732 hz, 8, s_732 hz, in_n hc (by decide), fun σ1 e1 => ?_⟩
  have e1' : σ1 = pI σ 754 A (nI 0) := e1
  subst e1'
  refine ⟨z0.1, A + 26, z_733 z0, 8, s_733 z0, in_n hc (by decide), ?_⟩
  have b26 : eI (pI σ 754 A (nI 0)) (A + 26) c = nI n := h26
  have b27 : eI (pI σ 754 A (nI 0)) (A + 27) c = nI ag.toNat := h27
  rw [ix_n (by omega), b26, h25]
  have rest : ∀ σ2 zs, MZ σ2 A → OT σ2 A zs → zs ++ [48 + x.1] = tHead x n ag → MF wrF (wrP A) A σ σ2 → PW (d + 2) M_Mod_write 49 [.ref A, uu, .int (nI m), uu, uu] [] σ2 K := by
    intro σ2 zs z2 o2 he f2
    have w2 := hw.mf f2
    have hl := len_of he
    have hth : (tHead x n ag).length ≤ 7 := by
      unfold tHead dig3
      cases ag <;> simp
    have hx1 : x.1 < 65000 := by omega
    refine e_Mod_write_49 A _ ⟨z2.1, A + 14, z_720 z2, 11, s_720 z2, in_n hm (by decide), ?_⟩
    rw [ix_n (by omega), w2.p1]
    simp (disch := omega) only [l_0, l_1, l_2, l_3, l_4, l_5, l_6, l_7, l_8, l_9, l_10, l_11, l_12, l_13, l_14, l_15, l_16, l_17, l_18, l_19, l_20, l_21, l_22, l_23, l_24, l_25, l_26, l_27, l_28, l_29, l_30, l_31, l_32, l_33, l_34, l_35, l_36, l_37, l_38, l_39, l_40, l_41, l_42, l_43, l_44, l_45, l_46, l_47, l_48, l_49, l_50, l_51, l_52, l_53, l_54, l_55, l_56, l_57, l_58, l_59, l_60, l_61, l_62, l_63, l_64, l_65, l_66, l_67, l_68, l_69, l_70, l_71, l_72, l_73, l_74, l_75, l_76, l_77, l_78, l_79, l_80, l_81, l_82, l_83, l_84, l_85, l_86, l_87, l_88, l_89, l_90, l_91, l_92, l_93, l_94, l_95, l_96, l_97, l_98, l_99, l_100, l_101, l_102, l_103, l_104, l_105, l_106, l_107, l_108, l_109, l_110, l_111, l_112, l_113, l_114, l_115, l_116, l_117, l_118, l_119, l_120, l_121, l_122, l_123, l_124, l_125, l_126, l_127, l_128, l_129, l_130, l_256, l_512, l_676, l_704, l_999, l_1000, l_4096, l_17576, l_32768, l_65535, l_456975, l_456976, l_m1, l_m2, add_n, i2c_n]
    refine c_put z2 o2 (by omega) (by omega) (fun σ3 z3 o3 f3 => ?_)
    simp only [kV_v]
    rw [he] at o3
    exact write_inds (d := d + 1) (σ0 := σ) (x := x) (pre := tHead x n ag) (Z := tape x n ag) hm hi4 hik hb hcc hZ rfl hk x.2.1.length 0 σ3 _ (by omega) z3 (w2.mf f3) o3 rfl (f2.tr f3)
  refine c_putDigits z0 (zs := []) ⟨gI_s, fun i hi => absurd hi (Nat.not_lt_zero _)⟩ (by simp) hn (fun σ2 z2 o2 f2 => ?_)
  simp only [kV_v]
  refine ⟨z2.1, c_put (v := 32) z2 o2 (by simp [dig3]) (by decide) (fun σ3 z3 o3 f3 => ?_)⟩
  simp only [kV_v]
  have c27 : eI σ3 (A + 27) c = nI ag.toNat := by rw [f3.eI (by unfold wrP; omega), f2.eI (by unfold wrP; omega)]; exact b27
  refine ⟨z3.1, A + 27, z_734 z3, 8, s_734 z3, in_n hc (by decide), ?_⟩
  rw [c27]
  cases ag with
  | false =>
    rw [if_pos (by decide)]
    refine rest σ3 _ z3 o3 ?_ (f0.tr (f2.tr f3))
    unfold tHead
    rw [if_neg (by decide)]
    simp
  | true =>
    rw [if_neg (by decide)]
    refine c_put (v := 82) z3 o3 (by simp [dig3]) (by decide) (fun σ4 z4 o4 f4 => ?_)
    simp only [kV_v]
    refine ⟨z4.1, c_put (v := 32) z4 o4 (by simp [dig3]) (by decide) (fun σ5 z5 o5 f5 => ?_)⟩
    simp only [kV_v]
    refine rest σ5 _ z5 o5 ?_ (f0.tr ((((f2.tr f3).tr f4).tr f5)))
    unfold tHead
    rw [if_pos rfl]
    simp
def tsF (f : Nat) : Prop := f = 756
def tsP (A a _j : Nat) : Prop := a = A + 40
/-- the signs of the first n steps -/
def SG (σ : PH) (A : Nat) (tp : List Nat) (n : Nat) : Prop := gI σ 756 A = nI n ∧ ∀ i, i < n → (run tp i).1 < tp.length ∧ eI σ (A + 40) i = emi tp (run tp i)
theorem c_addSign {tp : List Nat} {n : Nat} {v : Int32} (hz : MZ σ A) (hs : SG σ A tp n) (hn : n < 500) (hr : (run tp n).1 < tp.length) (hv : v = emi tp (run tp n)) (hk : ∀ σ', MZ σ' A → SG σ' A tp (n + 1) → MF tsF (tsP A) A σ σ' → K (.inl none) σ') : PW d M_Mod_addSign 0 [.ref A, .int v] [] σ K := by
  obtain ⟨o1, o2⟩ := hs
  refine e_Mod_addSign_0 A _ ?_
  simp (disch := omega) only [bs_pI, cc_pI, cs_pI, sh_pI, gR_pI, eI_pI, eR_pI, eL_pI, bs_pR, cc_pR, cs_pR, sh_pR, gI_pR, eI_pR, eR_pR, eL_pR, bs_uI, cc_uI, cs_uI, sh_uI, gI_uI, gR_uI, eR_uI, eL_uI, bs_uR, cc_uR, cs_uR, sh_uR, gI_uR, gR_uR, eI_uR, eL_uR, bs_uL, cc_uL, cs_uL, sh_uL, gI_uL, gR_uL, eI_uL, eR_uL, gI_s, gI_d, gR_s, gR_d, eI_s, eI_d, eI_e, eR_s, eR_d, eR_e, eL_s, eL_d, bs_bump, cc_bump, cs_bump, sh_bump, gI_bump, gR_bump, eI_bump, eR_bump, eL_bump, l_0, l_1, l_2, l_3, l_4, l_5, l_6, l_7, l_8, l_9, l_10, l_11, l_12, l_13, l_14, l_15, l_16, l_17, l_18, l_19, l_20, l_21, l_22, l_23, l_24, l_25, l_26, l_27, l_28, l_29, l_30, l_31, l_32, l_33, l_34, l_35, l_36, l_37, l_38, l_39, l_40, l_41, l_42, l_43, l_44, l_45, l_46, l_47, l_48, l_49, l_50, l_51, l_52, l_53, l_54, l_55, l_56, l_57, l_58, l_59, l_60, l_61, l_62, l_63, l_64, l_65, l_66, l_67, l_68, l_69, l_70, l_71, l_72, l_73, l_74, l_75, l_76, l_77, l_78, l_79, l_80, l_81, l_82, l_83, l_84, l_85, l_86, l_87, l_88, l_89, l_90, l_91, l_92, l_93, l_94, l_95, l_96, l_97, l_98, l_99, l_100, l_101, l_102, l_103, l_104, l_105, l_106, l_107, l_108, l_109, l_110, l_111, l_112, l_113, l_114, l_115, l_116, l_117, l_118, l_119, l_120, l_121, l_122, l_123, l_124, l_125, l_126, l_127, l_128, l_129, l_130, l_256, l_512, l_676, l_704, l_999, l_1000, l_4096, l_17576, l_32768, l_65535, l_456975, l_456976, l_m1, l_m2, in_iff, eq_m1, m1_eq, m1_lt, m1_le, le_m1, lt_m1, eq_m2, m2_m1, m1_m2, add_m1, m1_add, sub_n, mul_n, add_n, bo_n0, bo_n1, ch_n, lt_n, le_n, eq_n, ix_n, i2c_n, rem_n, div_n, kI_i, kI_x, kV_v, kV_x, kR_r, kR_n, kR_x, kHI_i, kHI_0, kHI_1, kHV_v, kHV_0, kHV_1, va_s, va_n, exists_eq_left', exists_eq_left, forall_eq, forall_eq', and_true, true_and, and_self, Option.some.injEq, Prod.mk.injEq, if_tt, if_ff, reduceIte, reduceCtorEq, not_true_eq_false, not_false_eq_true, Nat.reduceAdd, Nat.reduceMul, Nat.reduceSub, Nat.reduceLT, Nat.reduceLeDiff, Nat.reduceEqDiff, false_implies, true_implies, implies_true, hz.1, z_757 hz, s_757 hz, o1]
  have f1 : MF tsF (tsP A) A σ (pI (uI σ (A + 40) n v) 756 A (nI (n + 1))) := (MF.uI (show tsP A (A + 40) _ from rfl)).tr (MF.pI (show tsF 756 from rfl))
  refine ⟨by omega, hk _ (f1.z hz) ⟨by simp only [bs_pI, cc_pI, cs_pI, sh_pI, gR_pI, eI_pI, eR_pI, eL_pI, bs_pR, cc_pR, cs_pR, sh_pR, gI_pR, eI_pR, eR_pR, eL_pR, bs_uI, cc_uI, cs_uI, sh_uI, gI_uI, gR_uI, eR_uI, eL_uI, bs_uR, cc_uR, cs_uR, sh_uR, gI_uR, gR_uR, eI_uR, eL_uR, bs_uL, cc_uL, cs_uL, sh_uL, gI_uL, gR_uL, eI_uL, eR_uL, gI_s, gI_d, gR_s, gR_d, eI_s, eI_d, eI_e, eR_s, eR_d, eR_e, eL_s, eL_d, bs_bump, cc_bump, cs_bump, sh_bump, gI_bump, gR_bump, eI_bump, eR_bump, eL_bump], fun i hi => ?_⟩ f1⟩
  by_cases h : i = n
  · subst h
    refine ⟨hr, ?_⟩
    simp only [bs_pI, cc_pI, cs_pI, sh_pI, gR_pI, eI_pI, eR_pI, eL_pI, bs_pR, cc_pR, cs_pR, sh_pR, gI_pR, eI_pR, eR_pR, eL_pR, bs_uI, cc_uI, cs_uI, sh_uI, gI_uI, gR_uI, eR_uI, eL_uI, bs_uR, cc_uR, cs_uR, sh_uR, gI_uR, gR_uR, eI_uR, eL_uR, bs_uL, cc_uL, cs_uL, sh_uL, gI_uL, gR_uL, eI_uL, eR_uL, gI_s, gI_d, gR_s, gR_d, eI_s, eI_d, eI_e, eR_s, eR_d, eR_e, eL_s, eL_d, bs_bump, cc_bump, cs_bump, sh_bump, gI_bump, gR_bump, eI_bump, eR_bump, eL_bump]
    exact hv
  · have := o2 i (by omega)
    refine ⟨this.1, ?_⟩
    simp (disch := omega) only [bs_pI, cc_pI, cs_pI, sh_pI, gR_pI, eI_pI, eR_pI, eL_pI, bs_pR, cc_pR, cs_pR, sh_pR, gI_pR, eI_pR, eR_pR, eL_pR, bs_uI, cc_uI, cs_uI, sh_uI, gI_uI, gR_uI, eR_uI, eL_uI, bs_uR, cc_uR, cs_uR, sh_uR, gI_uR, gR_uR, eI_uR, eL_uR, bs_uL, cc_uL, cs_uL, sh_uL, gI_uL, gR_uL, eI_uL, eR_uL, gI_s, gI_d, gR_s, gR_d, eI_s, eI_d, eI_e, eR_s, eR_d, eR_e, eL_s, eL_d, bs_bump, cc_bump, cs_bump, sh_bump, gI_bump, gR_bump, eI_bump, eR_bump, eL_bump]
    exact this.2
theorem run_s {tp : List Nat} {n k : Nat} {f : Bool} (h : run tp n = (k, f)) : run tp (n + 1) = if shf (tp.getD k 0) f = true then (k, !f) else (k + 1, f) := by
  rw [run, h]; rfl
theorem toSigns_loop {tp : List Nat} {σ0 : PH} (hl : tp.length < 200) (hc : ∀ v ∈ tp, v < 128) (hk : ∀ σ' N, MZ σ' A → SG σ' A tp N → N ≤ 2 * tp.length → (run tp N).1 = tp.length → MF tsF (tsP A) A σ0 σ' → K (.inl none) σ') : ∀ (m k : Nat) (σ : PH) (n : Nat) (f : Bool), k + m = tp.length → MZ σ A → OT σ A tp → SG σ A tp n → n ≤ 2 * k → run tp n = (k, f) → MF tsF (tsP A) A σ0 σ → PW (d + 2) M_Mod_toSigns 9 [.ref A, .int (nI f.toNat), .int (nI k), uu, uu] [] σ K := by
  intro m
  induction m with
  | zero =>
    intro k σ n f hkm hz ho hs hn hr hf
    refine e_Mod_toSigns_9 A _ _ ⟨hz.1, ?_⟩
    rw [ho.1, if_pos ((nI_le_iff (by omega) (by omega)).mpr (by omega))]
    exact hk σ n hz hs (by omega) (by rw [hr]; show k = _; omega) hf
  | succ m ih =>
    intro k σ n f hkm hz ho hs hn hr hf
    have hlt := getD_lt hc k
    obtain ⟨x, hx⟩ : ∃ x, x = tp.getD k 0 := ⟨_, rfl⟩
    rw [← hx] at hlt
    have hrs := run_s hr
    rw [← hx] at hrs
    have hrl : (run tp n).1 < tp.length := by rw [hr]; show k < _; omega
    refine e_Mod_toSigns_9 A _ _ ⟨hz.1, ?_⟩
    rw [ho.1, if_neg (fun q => by have := (nI_le_iff (by omega) (by omega)).mp q; omega)]
    refine ⟨A + 39, z_755 hz, 256, s_755 hz, in_n (by omega) (by decide), ?_⟩
    rw [ix_n (by omega), ho.2 k (by omega), ← hx]
    have ot : ∀ σ', MF tsF (tsP A) A σ σ' → OT σ' A tp := fun σ' f1 => ⟨by rw [f1.gI (by unfold tsF; omega)]; exact ho.1, fun i hi => by rw [f1.eI (by unfold tsP; omega)]; exact ho.2 i hi⟩
    have emiB : shf x f = false → emi tp (run tp n) = sgI x := by
      intro q
      rw [hr]
      unfold emi
      show (if shf (tp.getD k 0) f = true then _ else sgI (tp.getD k 0)) = _
      rw [← hx, if_neg (by rw [q]; decide)]
    have blank : isB x = true → PW (d + 2) M_Mod_toSigns 36 [.ref A, .int (nI f.toNat), .int (nI k), .int (nI x), uu] [] σ K := by
      intro hB
      have hsf : shf x f = false := by unfold shf; rw [hB]; rfl
      rw [if_neg (by rw [hsf]; decide)] at hrs
      have go : ∀ v, nI v = sgI x → PW (d + 2) M_Mod_toSigns 50 [.ref A, .int (nI f.toNat), .int (nI k), uu, uu] [.int (nI v), .ref A] σ K := by
        intro v hv
        refine e_Mod_toSigns_50 A _ _ _ _ ⟨hz.1, c_addSign hz hs (by omega) hrl (by rw [emiB hsf]; exact hv) (fun σ1 z1 s1 f1 => ?_)⟩
        simp only [kV_v]
        refine e_Mod_toSigns_115 A _ _ ?_
        rw [nI_1]
        exact ih (k + 1) σ1 (n + 1) f (by omega) z1 (ot σ1 f1) s1 (by omega) hrs (hf.tr f1)
      refine e_Mod_toSigns_36 A _ _ _ ?_
      by_cases h32 : x = 32
      · rw [if_pos (show nI x = (32 : Int32) by rw [h32]; decide)]
        exact go 26 (by rw [h32]; decide)
      · rw [if_neg (show ¬ nI x = (32 : Int32) from fun q => h32 ((nI_eq_iff (b := 32) (by omega) (by decide)).mp q))]
        have h10 : x = 10 := by
          have := of_decide_eq_true hB
          omega
        exact go 27 (by rw [h10]; decide)
    by_cases h32 : x = 32
    · rw [if_pos (show nI x = (32 : Int32) by rw [h32]; decide)]
      exact blank (decide_eq_true (Or.inl h32))
    · rw [if_neg (show ¬ nI x = (32 : Int32) from fun q => h32 ((nI_eq_iff (b := 32) (by omega) (by decide)).mp q))]
      by_cases h10 : x = 10
      · rw [if_pos (show nI x = (10 : Int32) by rw [h10]; decide)]
        exact blank (decide_eq_true (Or.inr h10))
      · rw [if_neg (show ¬ nI x = (10 : Int32) from fun q => h10 ((nI_eq_iff (b := 10) (by omega) (by decide)).mp q))]
        have hB : isB x = false := decide_eq_false (by omega)
        refine c_modLetter (by omega) ?_
        simp only [kI_i]
        -- the sign itself, the shift being right
        have sgn : ∀ (b : Bool) σ1 n1, b = isL x → n1 ≤ 2 * k + 1 → MZ σ1 A → SG σ1 A tp n1 → run tp n1 = (k, !b) → MF tsF (tsP A) A σ σ1 → PW (d + 2) M_Mod_toSigns 95 [.ref A, .int (nI (!b).toNat), .int (nI k), .int (nI x), .int (nI (!b).toNat)] [] σ1 K := by
          intro b σ1 n1 hb hn1 z1 s1 hr1 f1
          have hsf : shf x (!b) = false := by unfold shf; rw [hB, ← hb]; cases b <;> rfl
          have hrs1 := run_s hr1
          rw [← hx, if_neg (by rw [hsf]; decide)] at hrs1
          have em : emi tp (run tp n1) = sgI x := by
            rw [hr1]
            unfold emi
            show (if shf (tp.getD k 0) (!b) = true then _ else sgI (tp.getD k 0)) = _
            rw [← hx, if_neg (by rw [hsf]; decide)]
          have go : ∀ v, v = sgI x → PW (d + 2) M_Mod_toSigns 112 [.ref A, .int (nI (!b).toNat), .int (nI k), uu, uu] [.int v, .ref A] σ1 K := by
            intro v hv
            refine e_Mod_toSigns_112 A _ _ _ _ ⟨z1.1, c_addSign z1 s1 (by omega) (by rw [hr1]; show k < _; omega) (by rw [em]; exact hv) (fun σ2 z2 s2 f2 => ?_)⟩
            simp only [kV_v]
            refine e_Mod_toSigns_115 A _ _ ?_
            rw [nI_1]
            exact ih (k + 1) σ2 (n1 + 1) (!b) (by omega) z2 (ot σ2 (f1.tr f2)) s2 (by omega) hrs1 (hf.tr (f1.tr f2))
          refine e_Mod_toSigns_95 A _ _ _ _ ?_
          have hsg : sg x = if isL x = true then x - 65 else if plc figL x < 21 then plc figL x else 32 := by unfold sg; rw [if_neg h32, if_neg h10]
          cases b with
          | true =>
            rw [if_pos (by decide)]
            have hL := isL_iff.mp hb.symm
            rw [l_65, sub_n (by omega)]
            refine go _ ?_
            unfold sgI
            rw [hsg, ← hb, if_pos rfl, if_pos (by omega)]
          | false =>
            rw [if_neg (by decide)]
            refine c_figureOf (by omega) ?_
            simp only [kI_i]
            refine go _ ?_
            unfold sgI
            have hsg2 : sg x = if plc figL x < 21 then plc figL x else 32 := by rw [hsg, if_neg (by rw [← hb]; decide)]
            rw [hsg2]
            by_cases h21 : plc figL x < 21
            · rw [if_pos h21, if_pos h21, if_pos (by omega)]
            · rw [if_neg h21, if_neg h21, if_neg (by omega)]
        have at68 : ∀ b : Bool, b = isL x → PW (d + 2) M_Mod_toSigns 68 [.ref A, .int (nI f.toNat), .int (nI k), .int (nI x), uu] [.int (nI (!b).toNat)] σ K := by
          intro b hb
          refine e_Mod_toSigns_68 A _ _ _ _ ?_
          by_cases hfb : f = !b
          · rw [if_pos (by rw [hfb])]
            have := sgn b σ n hb (by omega) hz hs (by rw [hr, hfb]) MF.rf
            rw [← hfb] at this ⊢
            exact this
          · have hfb2 : f = b := by cases f <;> cases b <;> simp_all
            have hsf : shf x f = true := by unfold shf; rw [hB, hfb2, ← hb]; cases b <;> rfl
            rw [if_pos hsf] at hrs
            have em : emi tp (run tp n) = nI (if f = true then 28 else 29) := by
              rw [hr]
              unfold emi
              show (if shf (tp.getD k 0) f = true then nI (if f = true then 28 else 29) else _) = _
              rw [← hx, if_pos hsf]
            have go : ∀ v, v = emi tp (run tp n) → PW (d + 2) M_Mod_toSigns 89 [.ref A, uu, .int (nI k), .int (nI x), .int (nI (!b).toNat)] [.int v, .ref A] σ K := by
              intro v hv
              refine e_Mod_toSigns_89 A _ _ _ _ _ ⟨hz.1, c_addSign hz hs (by omega) hrl hv (fun σ1 z1 s1 f1 => ?_)⟩
              simp only [kV_v]
              exact sgn b σ1 (n + 1) hb (by omega) z1 s1 (by rw [hrs, hfb2]) f1
            cases b with
            | true =>
              rw [hfb2, if_neg (by decide), if_pos (by decide)]
              exact go 28 (by rw [em, hfb2]; rfl)
            | false =>
              rw [hfb2, if_neg (by decide), if_neg (by decide)]
              exact go 29 (by rw [em, hfb2]; rfl)
        cases hL : isL x with
        | true => rw [if_neg (by decide)]; exact at68 true hL.symm
        | false => rw [if_pos (by decide)]; exact at68 false hL.symm
theorem c_toSigns {tp : List Nat} (hz : MZ σ A) (ho : OT σ A tp) (hl : tp.length < 200) (hc : ∀ v ∈ tp, v < 128) (hk : ∀ σ' N, MZ σ' A → SG σ' A tp N → N ≤ 2 * tp.length → (run tp N).1 = tp.length → MF tsF (tsP A) A σ σ' → K (.inl none) σ') : PW (d + 2) M_Mod_toSigns 0 [.ref A, uu, uu, uu, uu] [] σ K := by
  refine e_Mod_toSigns_0 A ⟨hz.1, fun σ1 e1 => ?_⟩
  have f1 : MF tsF (tsP A) A σ σ1 := by rw [e1]; exact MF.pI (show tsF 756 from rfl)
  exact toSigns_loop (σ0 := σ) hl hc hk tp.length 0 σ1 0 false (by omega) (f1.z hz) ⟨by rw [f1.gI (by unfold tsF; omega)]; exact ho.1, fun i hi => by rw [f1.eI (by unfold tsP; omega)]; exact ho.2 i hi⟩ ⟨by rw [e1]; exact gI_s, fun i hi => absurd hi (Nat.not_lt_zero _)⟩ (by omega) rfl f1
end ModC
