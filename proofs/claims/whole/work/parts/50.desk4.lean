/-! ===== contracts of makeCase, fileMessage, handIn, sign, resubmit ===== -/
theorem getD_ge {α : Type} {l : List α} {i : Nat} {d : α} (h : l.length ≤ i) : l.getD i d = d := by
  rw [List.getD_eq_getElem?_getD, List.getElem?_eq_none h]; rfl
theorem getD_snoc1 {α : Type} {R : List α} {x d : α} {i : Nat} (h : i ≠ R.length) : (R ++ [x]).getD i d = R.getD i d := by
  rw [List.getD_eq_getElem?_getD, List.getD_eq_getElem?_getD]
  by_cases h2 : i < R.length
  · rw [List.getElem?_append_left h2]
  · rw [List.getElem?_eq_none (by simp; omega), List.getElem?_eq_none (by omega)]
theorem SmT.snoc {M : List MS} {v : MS} : SmT M (M ++ [v]) := by
  intro m m1 m2
  unfold msg
  rw [getD_snoc1 (by omega)]
  exact ⟨rfl, rfl, rfl⟩
theorem newM_cg {S S' : SP} {xs : List Nat} (h1 : ∀ c, sOp (S'.1 c) = sOp (S.1 c)) (h2 : S'.2.2.2 = S.2.2.2) : newM S' xs = newM S xs := by
  have : ∀ r, chOf S' r = chOf S r := fun r => by unfold chOf; rw [h1, h1]
  have e : ∀ c, Rd S' (hInd xs) c = Rd S (hInd xs) c := fun c => by
    unfold Rd
    rw [h2]
    simp only [this]
  unfold newM
  simp only [e]
section Desk4
variable {d : Nat} {σ σ' : PH} {K : PO → PH → Prop} {B : Nat} {S : SP}
theorem k_makeCase {r : Nat} (hC : CR σ B S) (hN : S.2.2.1.length ≤ 6) (hr : r ≤ 5) (hk : ∀ σ', CR σ' B (addC S r) → Fr (fun q => q = B ∨ B + 170 ≤ q ∧ q < B + 188) σ σ' → K (.inl none) σ') : PW d M_Desk_makeCase 0 [.ref B, .int (nI r)] [] σ K := by
  have hC0 := hC
  obtain ⟨⟨a1, a2, a3, a4, a5, a6, a7, a8, a9, a10, a11, a12, a13, a14⟩, c2, c3, c4, c5, c6⟩ := hC
  refine e_Desk_makeCase_0 B _ ?_
  unfold addC at hk
  simp (disch := omega) only [bs_pI, cc_pI, cs_pI, sh_pI, gR_pI, eI_pI, eR_pI, eL_pI, bs_pR, cc_pR, cs_pR, sh_pR, gI_pR, eI_pR, eR_pR, eL_pR, bs_uI, cc_uI, cs_uI, sh_uI, gI_uI, gR_uI, eR_uI, eL_uI, bs_uR, cc_uR, cs_uR, sh_uR, gI_uR, gR_uR, eI_uR, eL_uR, bs_uL, cc_uL, cs_uL, sh_uL, gI_uL, gR_uL, eI_uL, eR_uL, gI_s, gI_d, gR_s, gR_d, eI_s, eI_d, eI_e, eR_s, eR_d, eR_e, eL_s, eL_d, bs_bump, cc_bump, cs_bump, sh_bump, gI_bump, gR_bump, eI_bump, eR_bump, eL_bump, l_0, l_1, l_2, l_3, l_4, l_5, l_6, l_7, l_8, l_9, l_10, l_11, l_12, l_13, l_14, l_15, l_16, l_17, l_18, l_19, l_20, l_21, l_22, l_23, l_24, l_25, l_26, l_27, l_28, l_29, l_30, l_31, l_32, l_33, l_34, l_35, l_36, l_37, l_38, l_39, l_40, l_41, l_42, l_43, l_44, l_45, l_46, l_47, l_48, l_49, l_50, l_51, l_52, l_53, l_54, l_55, l_56, l_57, l_58, l_59, l_60, l_61, l_62, l_63, l_64, l_65, l_66, l_67, l_68, l_69, l_70, l_71, l_72, l_73, l_74, l_75, l_76, l_77, l_78, l_79, l_80, l_81, l_82, l_83, l_84, l_85, l_86, l_87, l_88, l_89, l_90, l_91, l_92, l_93, l_94, l_95, l_96, l_97, l_98, l_99, l_100, l_101, l_102, l_103, l_104, l_105, l_106, l_107, l_108, l_109, l_110, l_111, l_112, l_113, l_114, l_115, l_116, l_117, l_118, l_119, l_120, l_121, l_122, l_123, l_124, l_125, l_126, l_127, l_128, l_129, l_130, l_256, l_512, l_676, l_704, l_999, l_1000, l_4096, l_17576, l_32768, l_65535, l_456975, l_456976, l_m1, l_m2, in_iff, eq_m1, m1_eq, m1_lt, m1_le, le_m1, lt_m1, eq_m2, m2_m1, m1_m2, add_m1, m1_add, sub_n, mul_n, add_n, bo_n0, bo_n1, ch_n, lt_n, le_n, eq_n, ix_n, i2c_n, rem_n, div_n, kI_i, kI_x, kV_v, kV_x, kR_r, kR_n, kR_x, kHI_i, kHI_0, kHI_1, kHV_v, kHV_0, kHV_1, va_s, va_n, exists_eq_left', exists_eq_left, forall_eq, forall_eq', and_true, true_and, and_self, Option.some.injEq, Prod.mk.injEq, if_tt, if_ff, reduceIte, reduceCtorEq, not_true_eq_false, not_false_eq_true, Nat.reduceAdd, Nat.reduceMul, Nat.reduceSub, Nat.reduceLT, Nat.reduceLeDiff, Nat.reduceEqDiff, false_implies, true_implies, implies_true, a1, a4, a8, a13]
  by_cases h6 : 6 ≤ S.2.2.1.length
  · rw [if_pos h6]
    rw [if_neg (by omega)] at hk
    exact hk σ hC0 Fr.rf
  · rw [if_neg h6, a14 _ (by omega)]
    rw [if_pos (by omega)] at hk
    have hm := c6 S.2.2.1.length (by omega)
    rw [getD_ge (Nat.le_refl _)] at hm
    obtain ⟨m1, m2, m3, m4, m5⟩ := hm
    simp (disch := omega) only [bs_pI, cc_pI, cs_pI, sh_pI, gR_pI, eI_pI, eR_pI, eL_pI, bs_pR, cc_pR, cs_pR, sh_pR, gI_pR, eI_pR, eR_pR, eL_pR, bs_uI, cc_uI, cs_uI, sh_uI, gI_uI, gR_uI, eR_uI, eL_uI, bs_uR, cc_uR, cs_uR, sh_uR, gI_uR, gR_uR, eI_uR, eL_uR, bs_uL, cc_uL, cs_uL, sh_uL, gI_uL, gR_uL, eI_uL, eR_uL, gI_s, gI_d, gR_s, gR_d, eI_s, eI_d, eI_e, eR_s, eR_d, eR_e, eL_s, eL_d, bs_bump, cc_bump, cs_bump, sh_bump, gI_bump, gR_bump, eI_bump, eR_bump, eL_bump, l_0, l_1, l_2, l_3, l_4, l_5, l_6, l_7, l_8, l_9, l_10, l_11, l_12, l_13, l_14, l_15, l_16, l_17, l_18, l_19, l_20, l_21, l_22, l_23, l_24, l_25, l_26, l_27, l_28, l_29, l_30, l_31, l_32, l_33, l_34, l_35, l_36, l_37, l_38, l_39, l_40, l_41, l_42, l_43, l_44, l_45, l_46, l_47, l_48, l_49, l_50, l_51, l_52, l_53, l_54, l_55, l_56, l_57, l_58, l_59, l_60, l_61, l_62, l_63, l_64, l_65, l_66, l_67, l_68, l_69, l_70, l_71, l_72, l_73, l_74, l_75, l_76, l_77, l_78, l_79, l_80, l_81, l_82, l_83, l_84, l_85, l_86, l_87, l_88, l_89, l_90, l_91, l_92, l_93, l_94, l_95, l_96, l_97, l_98, l_99, l_100, l_101, l_102, l_103, l_104, l_105, l_106, l_107, l_108, l_109, l_110, l_111, l_112, l_113, l_114, l_115, l_116, l_117, l_118, l_119, l_120, l_121, l_122, l_123, l_124, l_125, l_126, l_127, l_128, l_129, l_130, l_256, l_512, l_676, l_704, l_999, l_1000, l_4096, l_17576, l_32768, l_65535, l_456975, l_456976, l_m1, l_m2, in_iff, eq_m1, m1_eq, m1_lt, m1_le, le_m1, lt_m1, eq_m2, m2_m1, m1_m2, add_m1, m1_add, sub_n, mul_n, add_n, bo_n0, bo_n1, ch_n, lt_n, le_n, eq_n, ix_n, i2c_n, rem_n, div_n, kI_i, kI_x, kV_v, kV_x, kR_r, kR_n, kR_x, kHI_i, kHI_0, kHI_1, kHV_v, kHV_0, kHV_1, va_s, va_n, exists_eq_left', exists_eq_left, forall_eq, forall_eq', and_true, true_and, and_self, Option.some.injEq, Prod.mk.injEq, if_tt, if_ff, reduceIte, reduceCtorEq, not_true_eq_false, not_false_eq_true, Nat.reduceAdd, Nat.reduceMul, Nat.reduceSub, Nat.reduceLT, Nat.reduceLeDiff, Nat.reduceEqDiff, false_implies, true_implies, implies_true, m1]
    have ff : Fr (fun q => q = B ∨ q = B + 170 + 3 * S.2.2.1.length) σ (pI (pI σ 448 (B + 170 + 3 * S.2.2.1.length) (nI r)) 6 B (nI (S.2.2.1.length + 1))) := (Fr.pI (Or.inr rfl)).tr (Fr.pI (Or.inl rfl))
    refine ⟨by omega, hk _ ⟨⟨a1, a2, a3, a4, a5, a6, ?_, ?_, a9, a10, a11, a12, a13, a14⟩, c2.ag (fun q q1 q2 => ff.ag (by omega)), c3.ag (ff.ag (by omega)) (ff.ag (by omega)), fun x hx => (c4 x hx).ag (fun q hq => ff.ag (by unfold hP cA at hq; omega)), fun m z1 z2 => (c5 m z1 z2).ag (fun q q1 q2 => ff.ag (by unfold mA at q1 q2; omega)), fun i hi => ?_⟩ (ff.mo (fun q hq => by omega))⟩
    · simp (disch := omega) only [bs_pI, cc_pI, cs_pI, sh_pI, gR_pI, eI_pI, eR_pI, eL_pI, bs_pR, cc_pR, cs_pR, sh_pR, gI_pR, eI_pR, eR_pR, eL_pR, bs_uI, cc_uI, cs_uI, sh_uI, gI_uI, gR_uI, eR_uI, eL_uI, bs_uR, cc_uR, cs_uR, sh_uR, gI_uR, gR_uR, eI_uR, eL_uR, bs_uL, cc_uL, cs_uL, sh_uL, gI_uL, gR_uL, eI_uL, eR_uL, gI_s, gI_d, gR_s, gR_d, eI_s, eI_d, eI_e, eR_s, eR_d, eR_e, eL_s, eL_d, bs_bump, cc_bump, cs_bump, sh_bump, gI_bump, gR_bump, eI_bump, eR_bump, eL_bump, a7]; rfl
    · simp (disch := omega) only [bs_pI, cc_pI, cs_pI, sh_pI, gR_pI, eI_pI, eR_pI, eL_pI, bs_pR, cc_pR, cs_pR, sh_pR, gI_pR, eI_pR, eR_pR, eL_pR, bs_uI, cc_uI, cs_uI, sh_uI, gI_uI, gR_uI, eR_uI, eL_uI, bs_uR, cc_uR, cs_uR, sh_uR, gI_uR, gR_uR, eI_uR, eL_uR, bs_uL, cc_uL, cs_uL, sh_uL, gI_uL, gR_uL, eI_uL, eR_uL, gI_s, gI_d, gR_s, gR_d, eI_s, eI_d, eI_e, eR_s, eR_d, eR_e, eL_s, eL_d, bs_bump, cc_bump, cs_bump, sh_bump, gI_bump, gR_bump, eI_bump, eR_bump, eL_bump]
      show nI (S.2.2.1.length + 1) = nI (S.2.2.1 ++ [(r, [])]).length
      simp
    · show CA _ (B + 170 + 3 * i) ((S.2.2.1 ++ [(r, [])]).getD i (0, []))
      by_cases hil : i = S.2.2.1.length
      · subst hil
        rw [getD_snoc0]
        exact ⟨m1, m2, by simp (disch := omega) only [bs_pI, cc_pI, cs_pI, sh_pI, gR_pI, eI_pI, eR_pI, eL_pI, bs_pR, cc_pR, cs_pR, sh_pR, gI_pR, eI_pR, eR_pR, eL_pR, bs_uI, cc_uI, cs_uI, sh_uI, gI_uI, gR_uI, eR_uI, eL_uI, bs_uR, cc_uR, cs_uR, sh_uR, gI_uR, gR_uR, eI_uR, eL_uR, bs_uL, cc_uL, cs_uL, sh_uL, gI_uL, gR_uL, eI_uL, eR_uL, gI_s, gI_d, gR_s, gR_d, eI_s, eI_d, eI_e, eR_s, eR_d, eR_e, eL_s, eL_d, bs_bump, cc_bump, cs_bump, sh_bump, gI_bump, gR_bump, eI_bump, eR_bump, eL_bump], hr, m5.ag (ff.ag (by omega)) (ff.ag (by omega))⟩
      · rw [getD_snoc1 hil]
        exact (c6 i hi).ag (fun q q1 q2 => ff.ag (by omega))
/-- a message's cells alone have changed -/
theorem CR.mset {m : Nat} {v : MS} (h : CR σ B S) (hS : ∀ x, x < 8 → (sSd (S.1 x)).1 ≤ S.2.1.length) (hM : S.2.1.length ≤ 10) (h1 : 1 ≤ m) (h2 : m ≤ S.2.1.length) (hf : Fr (mP (mA B m)) σ σ') (hm : ME σ' (mA B m) v) (hv : v.1 = (msg S.2.1 m).1 ∧ v.2.1 = (msg S.2.1 m).2.1 ∧ v.2.2.1 = (msg S.2.1 m).2.2.1) : CR σ' B (uM S (S.2.1.set (m - 1) v)) := by
  obtain ⟨a1, a2, a3, a4, a5, a6⟩ := h
  have hs : SmT S.2.1 (S.2.1.set (m - 1) v) := by
    intro x x1 x2
    rw [msg_set h1 h2 x1]
    by_cases hx : x = m
    · rw [if_pos hx, hx]; exact hv
    · rw [if_neg hx]; exact ⟨rfl, rfl, rfl⟩
  refine ⟨?_, a2.ag (fun q q1 q2 => hf.ag (by unfold mP mA; omega)), a3.ag (hf.ag (by unfold mP mA; omega)) (hf.ag (by unfold mP mA; omega)), fun x hx => ((a4 x hx).ag (fun q hq => hf.ag (by unfold hP cA at hq; unfold mP mA; omega))).sm hs (hS x hx), fun x x1 x2 => ?_, fun i hi => (a6 i hi).ag (fun q q1 q2 => hf.ag (by unfold mP mA; omega))⟩
  · show DK σ' B (S.2.1.set (m - 1) v).length S.2.2.1.length
    rw [List.length_set]
    exact a1.ag (fun q q1 q2 => hf.ag (by unfold mP mA; omega))
  · show ME σ' (mA B x) (msg (S.2.1.set (m - 1) v) x)
    rw [msg_set h1 h2 x1]
    by_cases hx : x = m
    · rw [if_pos hx, hx]; exact hm
    · rw [if_neg hx]
      exact (a5 x x1 x2).ag (fun q q1 q2 => hf.ag (by unfold mA at q1 q2; unfold mP mA; omega))
/-- a message more -/
theorem CR.mnew {v : MS} (h : CR σ B S) (hS : ∀ x, x < 8 → (sSd (S.1 x)).1 ≤ S.2.1.length) (hM : S.2.1.length < 10) (hf : Fr (mP (mA B (S.2.1.length + 1))) (pI σ 5 B (nI (S.2.1.length + 1))) σ') (hm : ME σ' (mA B (S.2.1.length + 1)) v) : CR σ' B (uM S (S.2.1 ++ [v])) := by
  obtain ⟨a1, a2, a3, a4, a5, a6⟩ := h
  have ff : Fr (fun q => q = B ∨ mP (mA B (S.2.1.length + 1)) q) σ σ' := (Fr.pI (Or.inl rfl)).tr (hf.mo (fun q hq => Or.inr hq))
  refine ⟨?_, a2.ag (fun q q1 q2 => ff.ag (by unfold mP mA; omega)), a3.ag (ff.ag (by unfold mP mA; omega)) (ff.ag (by unfold mP mA; omega)), fun x hx => ((a4 x hx).ag (fun q hq => ff.ag (by unfold hP cA at hq; unfold mP mA; omega))).sm SmT.snoc (hS x hx), fun x x1 x2 => ?_, fun i hi => (a6 i hi).ag (fun q q1 q2 => ff.ag (by unfold mP mA; omega))⟩
  · obtain ⟨b1, b2, b3, b4, b5, b6, b7, b8, b9, b10, b11, b12, b13, b14⟩ := a1
    have : DK (pI σ 5 B (nI (S.2.1.length + 1))) B (S.2.1 ++ [v]).length S.2.2.1.length := ⟨b1, b2, b3, b4, b5, b6, by simp (disch := omega) only [bs_pI, cc_pI, cs_pI, sh_pI, gR_pI, eI_pI, eR_pI, eL_pI, bs_pR, cc_pR, cs_pR, sh_pR, gI_pR, eI_pR, eR_pR, eL_pR, bs_uI, cc_uI, cs_uI, sh_uI, gI_uI, gR_uI, eR_uI, eL_uI, bs_uR, cc_uR, cs_uR, sh_uR, gI_uR, gR_uR, eI_uR, eL_uR, bs_uL, cc_uL, cs_uL, sh_uL, gI_uL, gR_uL, eI_uL, eR_uL, gI_s, gI_d, gR_s, gR_d, eI_s, eI_d, eI_e, eR_s, eR_d, eR_e, eL_s, eL_d, bs_bump, cc_bump, cs_bump, sh_bump, gI_bump, gR_bump, eI_bump, eR_bump, eL_bump]; simp, by simp (disch := omega) only [bs_pI, cc_pI, cs_pI, sh_pI, gR_pI, eI_pI, eR_pI, eL_pI, bs_pR, cc_pR, cs_pR, sh_pR, gI_pR, eI_pR, eR_pR, eL_pR, bs_uI, cc_uI, cs_uI, sh_uI, gI_uI, gR_uI, eR_uI, eL_uI, bs_uR, cc_uR, cs_uR, sh_uR, gI_uR, gR_uR, eI_uR, eL_uR, bs_uL, cc_uL, cs_uL, sh_uL, gI_uL, gR_uL, eI_uL, eR_uL, gI_s, gI_d, gR_s, gR_d, eI_s, eI_d, eI_e, eR_s, eR_d, eR_e, eL_s, eL_d, bs_bump, cc_bump, cs_bump, sh_bump, gI_bump, gR_bump, eI_bump, eR_bump, eL_bump, b8], b9, b10, b11, b12, b13, b14⟩
    exact this.ag (fun q q1 q2 => hf.ag (by unfold mP mA; omega))
  · show ME σ' (mA B x) (msg (S.2.1 ++ [v]) x)
    unfold msg
    by_cases hx : x = S.2.1.length + 1
    · subst hx
      rw [show S.2.1.length + 1 - 1 = S.2.1.length by omega, getD_snoc0]
      exact hm
    · rw [getD_snoc1 (by omega)]
      exact (a5 x x1 x2).ag (fun q q1 q2 => ff.ag (by unfold mA at q1 q2; unfold mP mA; omega))
theorem c_channelOf {i : Nat} (hC : CR σ B S) (hi : i < 12) (hk : K (.inl (some (.int (nI (chOf S (S.2.2.2.getD i r0)))))) σ) : PW d M_Desk_channelOf 0 [.ref B, .ref (B + 4 + 2 + 2 * i)] [] σ K := by
  obtain ⟨⟨a1, a2, a3, a4, a5, a6, a7, a8, a9, a10, a11, a12, a13, a14⟩, c2, c3, c4, c5, c6⟩ := hC
  obtain ⟨t1, t2, t3, t4, t5, t6, t7, t8, t9, t10, t11, t12, t13⟩ := c2.2.2.2.2.2.2 i hi
  refine e_Desk_channelOf_0 B _ ?_
  have h1 := c4 _ t11
  have h2 := c4 _ t12
  unfold chOf at hk
  simp (disch := omega) only [bs_pI, cc_pI, cs_pI, sh_pI, gR_pI, eI_pI, eR_pI, eL_pI, bs_pR, cc_pR, cs_pR, sh_pR, gI_pR, eI_pR, eR_pR, eL_pR, bs_uI, cc_uI, cs_uI, sh_uI, gI_uI, gR_uI, eR_uI, eL_uI, bs_uR, cc_uR, cs_uR, sh_uR, gI_uR, gR_uR, eI_uR, eL_uR, bs_uL, cc_uL, cs_uL, sh_uL, gI_uL, gR_uL, eI_uL, eR_uL, gI_s, gI_d, gR_s, gR_d, eI_s, eI_d, eI_e, eR_s, eR_d, eR_e, eL_s, eL_d, bs_bump, cc_bump, cs_bump, sh_bump, gI_bump, gR_bump, eI_bump, eR_bump, eL_bump, l_0, l_1, l_2, l_3, l_4, l_5, l_6, l_7, l_8, l_9, l_10, l_11, l_12, l_13, l_14, l_15, l_16, l_17, l_18, l_19, l_20, l_21, l_22, l_23, l_24, l_25, l_26, l_27, l_28, l_29, l_30, l_31, l_32, l_33, l_34, l_35, l_36, l_37, l_38, l_39, l_40, l_41, l_42, l_43, l_44, l_45, l_46, l_47, l_48, l_49, l_50, l_51, l_52, l_53, l_54, l_55, l_56, l_57, l_58, l_59, l_60, l_61, l_62, l_63, l_64, l_65, l_66, l_67, l_68, l_69, l_70, l_71, l_72, l_73, l_74, l_75, l_76, l_77, l_78, l_79, l_80, l_81, l_82, l_83, l_84, l_85, l_86, l_87, l_88, l_89, l_90, l_91, l_92, l_93, l_94, l_95, l_96, l_97, l_98, l_99, l_100, l_101, l_102, l_103, l_104, l_105, l_106, l_107, l_108, l_109, l_110, l_111, l_112, l_113, l_114, l_115, l_116, l_117, l_118, l_119, l_120, l_121, l_122, l_123, l_124, l_125, l_126, l_127, l_128, l_129, l_130, l_256, l_512, l_676, l_704, l_999, l_1000, l_4096, l_17576, l_32768, l_65535, l_456975, l_456976, l_m1, l_m2, in_iff, eq_m1, m1_eq, m1_lt, m1_le, le_m1, lt_m1, eq_m2, m2_m1, m1_m2, add_m1, m1_add, sub_n, mul_n, add_n, bo_n0, bo_n1, ch_n, lt_n, le_n, eq_n, ix_n, i2c_n, rem_n, div_n, kI_i, kI_x, kV_v, kV_x, kR_r, kR_n, kR_x, kHI_i, kHI_0, kHI_1, kHV_v, kHV_0, kHV_1, va_s, va_n, exists_eq_left', exists_eq_left, forall_eq, forall_eq', and_true, true_and, and_self, Option.some.injEq, Prod.mk.injEq, if_tt, if_ff, reduceIte, reduceCtorEq, not_true_eq_false, not_false_eq_true, Nat.reduceAdd, Nat.reduceMul, Nat.reduceSub, Nat.reduceLT, Nat.reduceLeDiff, Nat.reduceEqDiff, false_implies, true_implies, implies_true, a1, a2, a9, t1, t5, t6]
  rw [a10 _ t11, a10 _ t12]
  simp (disch := omega) only [bs_pI, cc_pI, cs_pI, sh_pI, gR_pI, eI_pI, eR_pI, eL_pI, bs_pR, cc_pR, cs_pR, sh_pR, gI_pR, eI_pR, eR_pR, eL_pR, bs_uI, cc_uI, cs_uI, sh_uI, gI_uI, gR_uI, eR_uI, eL_uI, bs_uR, cc_uR, cs_uR, sh_uR, gI_uR, gR_uR, eI_uR, eL_uR, bs_uL, cc_uL, cs_uL, sh_uL, gI_uL, gR_uL, eI_uL, eR_uL, gI_s, gI_d, gR_s, gR_d, eI_s, eI_d, eI_e, eR_s, eR_d, eR_e, eL_s, eL_d, bs_bump, cc_bump, cs_bump, sh_bump, gI_bump, gR_bump, eI_bump, eR_bump, eL_bump, l_0, l_1, l_2, l_3, l_4, l_5, l_6, l_7, l_8, l_9, l_10, l_11, l_12, l_13, l_14, l_15, l_16, l_17, l_18, l_19, l_20, l_21, l_22, l_23, l_24, l_25, l_26, l_27, l_28, l_29, l_30, l_31, l_32, l_33, l_34, l_35, l_36, l_37, l_38, l_39, l_40, l_41, l_42, l_43, l_44, l_45, l_46, l_47, l_48, l_49, l_50, l_51, l_52, l_53, l_54, l_55, l_56, l_57, l_58, l_59, l_60, l_61, l_62, l_63, l_64, l_65, l_66, l_67, l_68, l_69, l_70, l_71, l_72, l_73, l_74, l_75, l_76, l_77, l_78, l_79, l_80, l_81, l_82, l_83, l_84, l_85, l_86, l_87, l_88, l_89, l_90, l_91, l_92, l_93, l_94, l_95, l_96, l_97, l_98, l_99, l_100, l_101, l_102, l_103, l_104, l_105, l_106, l_107, l_108, l_109, l_110, l_111, l_112, l_113, l_114, l_115, l_116, l_117, l_118, l_119, l_120, l_121, l_122, l_123, l_124, l_125, l_126, l_127, l_128, l_129, l_130, l_256, l_512, l_676, l_704, l_999, l_1000, l_4096, l_17576, l_32768, l_65535, l_456975, l_456976, l_m1, l_m2, in_iff, eq_m1, m1_eq, m1_lt, m1_le, le_m1, lt_m1, eq_m2, m2_m1, m1_m2, add_m1, m1_add, sub_n, mul_n, add_n, bo_n0, bo_n1, ch_n, lt_n, le_n, eq_n, ix_n, i2c_n, rem_n, div_n, kI_i, kI_x, kV_v, kV_x, kR_r, kR_n, kR_x, kHI_i, kHI_0, kHI_1, kHV_v, kHV_0, kHV_1, va_s, va_n, exists_eq_left', exists_eq_left, forall_eq, forall_eq', and_true, true_and, and_self, Option.some.injEq, Prod.mk.injEq, if_tt, if_ff, reduceIte, reduceCtorEq, not_true_eq_false, not_false_eq_true, Nat.reduceAdd, Nat.reduceMul, Nat.reduceSub, Nat.reduceLT, Nat.reduceLeDiff, Nat.reduceEqDiff, false_implies, true_implies, implies_true, h1.1, h1.2.1, h2.1, h2.2.1, bn_z', Option.some.injEq]
  refine ⟨by omega, ?_⟩
  by_cases ho : sOp (S.1 (S.2.2.2.getD i r0).2.1) = false
  · rw [if_pos ho]
    refine ⟨by omega, ?_⟩
    by_cases ho2 : sOp (S.1 (S.2.2.2.getD i r0).2.2.1) = false
    · rw [if_pos ho2]
      rw [if_neg (fun q => by rw [ho2] at q; exact absurd q.2 (by decide))] at hk
      exact hk
    · rw [if_neg ho2]
      rw [if_pos ⟨ho, by simpa using ho2⟩] at hk
      exact hk
  · rw [if_neg ho]
    rw [if_neg (fun q => ho q.1)] at hk
    exact hk
/-- a channel is reached from the first i rows -/
def RdN (S : SP) (ks : List Nat) (i c : Nat) : Prop := ∃ i', i' < i ∧ i' < S.2.2.2.length ∧ Rc S.2.2.2 (Sd S.2.2.2 ks) 12 i' ∧ (S.2.2.2.getD i' r0).2.2.2 = [] ∧ chOf S (S.2.2.2.getD i' r0) = c
theorem chOf_lt {i : Nat} (hC : CR σ B S) (hi : i < 12) : chOf S (S.2.2.2.getD i r0) < 8 := by
  obtain ⟨t1, t2, t3, t4, t5, t6, t7, t8, t9, t10, t11, t12, t13⟩ := hC.2.1.2.2.2.2.2.2 i hi
  unfold chOf
  split
  · exact t12
  · exact t11
theorem file_loop {p : Nat} {is bd : List Nat} {n : Nat} {ks : List Nat} {σ0 : PH} (hn : BT n (Rc S.2.2.2 (Sd S.2.2.2 ks) 12)) (hM : S.2.1.length < 10) (hS : ∀ x, x < 8 → (sSd (S.1 x)).1 ≤ S.2.1.length) (hk : ∀ σ', CR σ' B (uM S (S.2.1 ++ [(p, is, bd, fun c => pN (Rd S ks c))])) → Fr (mP (mA B (S.2.1.length + 1))) σ0 σ' → K (.inl none) σ') : ∀ (m i : Nat) (σ : PH), i + m = S.2.2.2.length → CR σ B (uM S (S.2.1 ++ [(p, is, bd, fun c => pN (RdN S ks i c))])) → Fr (mP (mA B (S.2.1.length + 1))) σ0 σ → PW (d + 1) M_Desk_fileMessage 42 [.ref B, uu, .int (nI n), .ref (mA B (S.2.1.length + 1)), .int (nI i), uu] [] σ K := by
  intro m
  induction m with
  | zero =>
    intro i σ hi hC hf
    have hr := hC.2.1
    have h12 : S.2.2.2.length ≤ 12 := hr.2.2.2.2.2.1
    refine e_Desk_fileMessage_42 B _ _ _ ⟨hC.1.1, B + 4, hC.1.2.2.2.2.1, hr.1, ?_⟩
    have r5' : gI σ 577 (B + 4) = nI S.2.2.2.length := hr.2.2.2.2.1
    rw [r5', if_pos (by rw [nI_le_iff (by omega) (by omega)]; omega)]
    refine hk σ ?_ hf
    have e : (fun c => pN (RdN S ks i c)) = fun c => pN (Rd S ks c) := by
      funext c
      congr 1
      refine propext ⟨?_, ?_⟩
      · rintro ⟨i', q1, q2⟩; exact ⟨i', q2⟩
      · rintro ⟨i', q1, q2⟩; exact ⟨i', by omega, q1, q2⟩
    rw [e] at hC
    exact hC
  | succ m ih =>
    intro i σ hi hC hf
    have hr := hC.2.1
    obtain ⟨r1, r2, r3, r4, r5, r6, r7⟩ := hr
    have h12 : S.2.2.2.length ≤ 12 := r6
    have r5' : gI σ 577 (B + 4) = nI S.2.2.2.length := r5
    have ht : RT σ (B + 4 + 2 + 2 * i) (S.2.2.2.getD i r0) := r7 i (by omega)
    have hm := hC.2.2.2.2.1 (S.2.1.length + 1) (by omega) (by omega)
    have em : msg (uM S (S.2.1 ++ [(p, is, bd, fun c => pN (RdN S ks i c))])).2.1 (S.2.1.length + 1) = (p, is, bd, fun c => pN (RdN S ks i c)) := by
      show (S.2.1 ++ [_]).getD (S.2.1.length + 1 - 1) ms0 = _
      rw [show S.2.1.length + 1 - 1 = S.2.1.length by omega, getD_snoc0]
    rw [em] at hm
    have hb := hn.1
    refine e_Desk_fileMessage_42 B _ _ _ ⟨hC.1.1, B + 4, hC.1.2.2.2.2.1, r1, ?_⟩
    simp (disch := omega) only [bs_pI, cc_pI, cs_pI, sh_pI, gR_pI, eI_pI, eR_pI, eL_pI, bs_pR, cc_pR, cs_pR, sh_pR, gI_pR, eI_pR, eR_pR, eL_pR, bs_uI, cc_uI, cs_uI, sh_uI, gI_uI, gR_uI, eR_uI, eL_uI, bs_uR, cc_uR, cs_uR, sh_uR, gI_uR, gR_uR, eI_uR, eL_uR, bs_uL, cc_uL, cs_uL, sh_uL, gI_uL, gR_uL, eI_uL, eR_uL, gI_s, gI_d, gR_s, gR_d, eI_s, eI_d, eI_e, eR_s, eR_d, eR_e, eL_s, eL_d, bs_bump, cc_bump, cs_bump, sh_bump, gI_bump, gR_bump, eI_bump, eR_bump, eL_bump, l_0, l_1, l_2, l_3, l_4, l_5, l_6, l_7, l_8, l_9, l_10, l_11, l_12, l_13, l_14, l_15, l_16, l_17, l_18, l_19, l_20, l_21, l_22, l_23, l_24, l_25, l_26, l_27, l_28, l_29, l_30, l_31, l_32, l_33, l_34, l_35, l_36, l_37, l_38, l_39, l_40, l_41, l_42, l_43, l_44, l_45, l_46, l_47, l_48, l_49, l_50, l_51, l_52, l_53, l_54, l_55, l_56, l_57, l_58, l_59, l_60, l_61, l_62, l_63, l_64, l_65, l_66, l_67, l_68, l_69, l_70, l_71, l_72, l_73, l_74, l_75, l_76, l_77, l_78, l_79, l_80, l_81, l_82, l_83, l_84, l_85, l_86, l_87, l_88, l_89, l_90, l_91, l_92, l_93, l_94, l_95, l_96, l_97, l_98, l_99, l_100, l_101, l_102, l_103, l_104, l_105, l_106, l_107, l_108, l_109, l_110, l_111, l_112, l_113, l_114, l_115, l_116, l_117, l_118, l_119, l_120, l_121, l_122, l_123, l_124, l_125, l_126, l_127, l_128, l_129, l_130, l_256, l_512, l_676, l_704, l_999, l_1000, l_4096, l_17576, l_32768, l_65535, l_456975, l_456976, l_m1, l_m2, in_iff, eq_m1, m1_eq, m1_lt, m1_le, le_m1, lt_m1, eq_m2, m2_m1, m1_m2, add_m1, m1_add, sub_n, mul_n, add_n, bo_n0, bo_n1, ch_n, lt_n, le_n, eq_n, ix_n, i2c_n, rem_n, div_n, kI_i, kI_x, kV_v, kV_x, kR_r, kR_n, kR_x, kHI_i, kHI_0, kHI_1, kHV_v, kHV_0, kHV_1, va_s, va_n, exists_eq_left', exists_eq_left, forall_eq, forall_eq', and_true, true_and, and_self, Option.some.injEq, Prod.mk.injEq, if_tt, if_ff, reduceIte, reduceCtorEq, not_true_eq_false, not_false_eq_true, Nat.reduceAdd, Nat.reduceMul, Nat.reduceSub, Nat.reduceLT, Nat.reduceLeDiff, Nat.reduceEqDiff, false_implies, true_implies, implies_true, r5', r2, r3]
    rw [if_neg (by omega), r4 i (by omega)]
    simp (disch := omega) only [kI_i, kI_x, kV_v, kV_x, kR_r, kR_n, kR_x, kHI_i, kHI_0, kHI_1, kHV_v, kHV_0, kHV_1, va_s, va_n, exists_eq_left', exists_eq_left, forall_eq, forall_eq', and_true, true_and, and_self, Option.some.injEq, Prod.mk.injEq, if_tt, if_ff, reduceIte, reduceCtorEq, not_true_eq_false, not_false_eq_true, Nat.reduceAdd, Nat.reduceMul, Nat.reduceSub, Nat.reduceLT, Nat.reduceLeDiff, Nat.reduceEqDiff, false_implies, true_implies, implies_true]
    refine ⟨by omega, c_Routes_has (by omega) (by omega) ?_⟩
    simp only [kI_i]
    have stay : (¬ (Rc S.2.2.2 (Sd S.2.2.2 ks) 12 i ∧ (S.2.2.2.getD i r0).2.2.2 = [])) → PW (d + 1) M_Desk_fileMessage 95 [.ref B, uu, .int (nI n), .ref (mA B (S.2.1.length + 1)), .int (nI i), uu] [] σ K := by
      intro hno
      refine e_Desk_fileMessage_95 B _ _ _ ?_
      rw [nI_1]
      refine ih (i + 1) σ (by omega) ?_ hf
      have e : (fun c => pN (RdN S ks (i + 1) c)) = fun c => pN (RdN S ks i c) := by
        funext c
        congr 1
        refine propext ⟨?_, ?_⟩
        · rintro ⟨i', q1, q2, q3, q4, q5⟩
          by_cases hii : i' = i
          · subst hii; exact absurd ⟨q3, q4⟩ hno
          · exact ⟨i', by omega, q2, q3, q4, q5⟩
        · rintro ⟨i', q1, q2⟩; exact ⟨i', by omega, q2⟩
      rw [e]
      exact hC
    cases hh : n.testBit i with
    | false =>
      rw [if_pos (by decide)]
      exact stay (fun q => by have := (hn.2 i).mpr q.1; rw [hh] at this; exact absurd this (by decide))
    | true =>
      have hRc := (hn.2 i).mp hh
      rw [if_neg (by decide)]
      refine ⟨ht.1, c_Route_isGroup ht ?_⟩
      simp only [kI_i]
      by_cases hg : (S.2.2.2.getD i r0).2.2.2 = []
      · rw [decide_eq_false (fun q => q hg), if_pos (by decide)]
        have hch := chOf_lt (i := i) hC (by omega)
        have ech : chOf (uM S (S.2.1 ++ [(p, is, bd, fun c => pN (RdN S ks i c))])) ((uM S (S.2.1 ++ [(p, is, bd, fun c => pN (RdN S ks i c))])).2.2.2.getD i r0) = chOf S (S.2.2.2.getD i r0) := rfl
        rw [ech] at hch
        refine ⟨hm.1, mA B (S.2.1.length + 1) + 4, hm.2.2.2.2.2.1, hC.1.1, c_channelOf hC (by omega) ?_⟩
        rw [ech]
        simp only [kI_i]
        refine ⟨8, hm.2.2.2.2.2.2.1, in_n hch (by decide), ?_⟩
        rw [ix_n (by omega)]
        have hm1 := hm.fate (c := chOf S (S.2.2.2.getD i r0)) (F := 1) hch (by decide)
        obtain ⟨σ1, e1'⟩ : ∃ σ1, σ1 = uI σ (mA B (S.2.1.length + 1) + 4) (chOf S (S.2.2.2.getD i r0)) (fI 1) := ⟨_, rfl⟩
        show PW (d + 1) M_Desk_fileMessage 95 [.ref B, uu, .int (nI n), .ref (mA B (S.2.1.length + 1)), .int (nI i), uu] [] (uI σ (mA B (S.2.1.length + 1) + 4) (chOf S (S.2.2.2.getD i r0)) (fI 1)) K
        rw [← e1']
        rw [← e1'] at hm1
        have f1 : Fr (mP (mA B (S.2.1.length + 1))) σ σ1 := by rw [e1']; exact Fr.uI (by unfold mP; omega)
        refine e_Desk_fileMessage_95 B _ _ _ ?_
        rw [nI_1]
        refine ih (i + 1) σ1 (by omega) ?_ (hf.tr f1)
        have hl : (uM S (S.2.1 ++ [(p, is, bd, fun c => pN (RdN S ks i c))])).2.1.length = S.2.1.length + 1 := by show (S.2.1 ++ [_]).length = _; simp
        have := hC.mset (m := S.2.1.length + 1) (fun x hx => by rw [hl]; have := hS x hx; exact Nat.le_succ_of_le this) (by rw [hl]; omega) (by omega) (by rw [hl]; exact Nat.le_refl _) f1 hm1 (by rw [em]; exact ⟨rfl, rfl, rfl⟩)
        have es : (uM S (S.2.1 ++ [(p, is, bd, fun c => pN (RdN S ks i c))])).2.1.set (S.2.1.length + 1 - 1) (p, is, bd, fun y => if y = chOf S (S.2.2.2.getD i r0) then 1 else pN (RdN S ks i y)) = S.2.1 ++ [(p, is, bd, fun c => pN (RdN S ks (i + 1) c))] := by
          show (S.2.1 ++ [_]).set _ _ = _
          rw [show S.2.1.length + 1 - 1 = S.2.1.length by omega, set_snoc]
          congr 5
          funext y
          by_cases hy : y = chOf S (S.2.2.2.getD i r0)
          · rw [if_pos hy, pN_t]
            exact ⟨i, by omega, by omega, hRc, hg, hy.symm⟩
          · rw [if_neg hy]
            congr 1
            refine propext ⟨?_, ?_⟩
            · rintro ⟨i', q1, q2⟩; exact ⟨i', by omega, q2⟩
            · rintro ⟨i', q1, q2, q3, q4, q5⟩
              by_cases hii : i' = i
              · subst hii; exact absurd q5.symm hy
              · exact ⟨i', by omega, q2, q3, q4, q5⟩
        rw [es] at this
        exact this
      · rw [decide_eq_true hg, if_neg (by decide)]
        exact stay (fun q => hg q.2)
theorem k_fileMessage {t cap n : Nat} {xs : List Nat} (hC : CR σ B S) (hM : S.2.1.length < 10) (hS : ∀ x, x < 8 → (sSd (S.1 x)).1 ≤ S.2.1.length) (hx : TX σ t cap xs) (hcap : cap < 900) (hta : t + 1 < B + 120 ∨ B + 170 ≤ t) (htB : t ≠ B ∧ t + 1 ≠ B) (g1 : gI σ 641 (B + 30) = nI (hPrc xs)) (hks : HK σ (B + 30) (hInd xs)) (g4 : gI σ 644 (B + 30) = nI (fle xs)) (hib : ∀ k ∈ hInd xs, k < 456976) (hfit : 5 * (hInd xs).length + (xs.drop (fle xs + 1)).length ≤ 54) (hn : BT n (Rc S.2.2.2 (Sd S.2.2.2 (hInd xs)) 12)) (hk : ∀ σ', CR σ' B (addM S xs) → Fr (fun q => q = B ∨ B + 120 ≤ q ∧ q < B + 170) σ σ' → K (.inl none) σ') : PW (d + 3) M_Desk_fileMessage 0 [.ref B, .ref t, .int (nI n), uu, uu, uu] [] σ K := by
  have hC0 := hC
  obtain ⟨⟨a1, a2, a3, a4, a5, a6, a7, a8, a9, a10, a11, a12, a13, a14⟩, c2, c3, c4, c5, c6⟩ := hC
  refine e_Desk_fileMessage_0 B t _ ?_
  have hm := c5 (S.2.1.length + 1) (by omega) (by omega)
  rw [show msg S.2.1 (S.2.1.length + 1) = ms0 from getD_ge (by omega)] at hm
  simp (disch := omega) only [bs_pI, cc_pI, cs_pI, sh_pI, gR_pI, eI_pI, eR_pI, eL_pI, bs_pR, cc_pR, cs_pR, sh_pR, gI_pR, eI_pR, eR_pR, eL_pR, bs_uI, cc_uI, cs_uI, sh_uI, gI_uI, gR_uI, eR_uI, eL_uI, bs_uR, cc_uR, cs_uR, sh_uR, gI_uR, gR_uR, eI_uR, eL_uR, bs_uL, cc_uL, cs_uL, sh_uL, gI_uL, gR_uL, eI_uL, eR_uL, gI_s, gI_d, gR_s, gR_d, eI_s, eI_d, eI_e, eR_s, eR_d, eR_e, eL_s, eL_d, bs_bump, cc_bump, cs_bump, sh_bump, gI_bump, gR_bump, eI_bump, eR_bump, eL_bump, l_0, l_1, l_2, l_3, l_4, l_5, l_6, l_7, l_8, l_9, l_10, l_11, l_12, l_13, l_14, l_15, l_16, l_17, l_18, l_19, l_20, l_21, l_22, l_23, l_24, l_25, l_26, l_27, l_28, l_29, l_30, l_31, l_32, l_33, l_34, l_35, l_36, l_37, l_38, l_39, l_40, l_41, l_42, l_43, l_44, l_45, l_46, l_47, l_48, l_49, l_50, l_51, l_52, l_53, l_54, l_55, l_56, l_57, l_58, l_59, l_60, l_61, l_62, l_63, l_64, l_65, l_66, l_67, l_68, l_69, l_70, l_71, l_72, l_73, l_74, l_75, l_76, l_77, l_78, l_79, l_80, l_81, l_82, l_83, l_84, l_85, l_86, l_87, l_88, l_89, l_90, l_91, l_92, l_93, l_94, l_95, l_96, l_97, l_98, l_99, l_100, l_101, l_102, l_103, l_104, l_105, l_106, l_107, l_108, l_109, l_110, l_111, l_112, l_113, l_114, l_115, l_116, l_117, l_118, l_119, l_120, l_121, l_122, l_123, l_124, l_125, l_126, l_127, l_128, l_129, l_130, l_256, l_512, l_676, l_704, l_999, l_1000, l_4096, l_17576, l_32768, l_65535, l_456975, l_456976, l_m1, l_m2, in_iff, eq_m1, m1_eq, m1_lt, m1_le, le_m1, lt_m1, eq_m2, m2_m1, m1_m2, add_m1, m1_add, sub_n, mul_n, add_n, bo_n0, bo_n1, ch_n, lt_n, le_n, eq_n, ix_n, i2c_n, rem_n, div_n, kI_i, kI_x, kV_v, kV_x, kR_r, kR_n, kR_x, kHI_i, kHI_0, kHI_1, kHV_v, kHV_0, kHV_1, va_s, va_n, exists_eq_left', exists_eq_left, forall_eq, forall_eq', and_true, true_and, and_self, Option.some.injEq, Prod.mk.injEq, if_tt, if_ff, reduceIte, reduceCtorEq, not_true_eq_false, not_false_eq_true, Nat.reduceAdd, Nat.reduceMul, Nat.reduceSub, Nat.reduceLT, Nat.reduceLeDiff, Nat.reduceEqDiff, false_implies, true_implies, implies_true, a1, a3, a6, a7, a11]
  rw [if_pos hM, a12 _ hM]
  have f1 : Fr (fun q => q = B) σ (pI σ 5 B (nI (S.2.1.length + 1))) := Fr.pI rfl
  simp (disch := omega) only [kI_i, kI_x, kV_v, kV_x, kR_r, kR_n, kR_x, kHI_i, kHI_0, kHI_1, kHV_v, kHV_0, kHV_1, va_s, va_n, exists_eq_left', exists_eq_left, forall_eq, forall_eq', and_true, true_and, and_self, Option.some.injEq, Prod.mk.injEq, if_tt, if_ff, reduceIte, reduceCtorEq, not_true_eq_false, not_false_eq_true, Nat.reduceAdd, Nat.reduceMul, Nat.reduceSub, Nat.reduceLT, Nat.reduceLeDiff, Nat.reduceEqDiff, false_implies, true_implies, implies_true, hm.1]
  refine ⟨by omega, c_Message_fill (p := hPrc xs) (is := hInd xs) (xs := xs) (cap := cap) hPrc_le (by unfold mA; omega) (by unfold mA; omega) (c3.ag (f1.ag (by omega)) (f1.ag (by omega))) ?_ ?_ ?_ (hx.ag (f1.ag htB.1) (f1.ag htB.2)) hcap hib hfit (hm.ag (fun q q1 q2 => f1.ag (by unfold mA at q1; omega))) (fun σ2 g2 f2 => ?_)⟩
  · simp (disch := omega) only [bs_pI, cc_pI, cs_pI, sh_pI, gR_pI, eI_pI, eR_pI, eL_pI, bs_pR, cc_pR, cs_pR, sh_pR, gI_pR, eI_pR, eR_pR, eL_pR, bs_uI, cc_uI, cs_uI, sh_uI, gI_uI, gR_uI, eR_uI, eL_uI, bs_uR, cc_uR, cs_uR, sh_uR, gI_uR, gR_uR, eI_uR, eL_uR, bs_uL, cc_uL, cs_uL, sh_uL, gI_uL, gR_uL, eI_uL, eR_uL, gI_s, gI_d, gR_s, gR_d, eI_s, eI_d, eI_e, eR_s, eR_d, eR_e, eL_s, eL_d, bs_bump, cc_bump, cs_bump, sh_bump, gI_bump, gR_bump, eI_bump, eR_bump, eL_bump, g1]
  · exact ⟨by simp (disch := omega) only [bs_pI, cc_pI, cs_pI, sh_pI, gR_pI, eI_pI, eR_pI, eL_pI, bs_pR, cc_pR, cs_pR, sh_pR, gI_pR, eI_pR, eR_pR, eL_pR, bs_uI, cc_uI, cs_uI, sh_uI, gI_uI, gR_uI, eR_uI, eL_uI, bs_uR, cc_uR, cs_uR, sh_uR, gI_uR, gR_uR, eI_uR, eL_uR, bs_uL, cc_uL, cs_uL, sh_uL, gI_uL, gR_uL, eI_uL, eR_uL, gI_s, gI_d, gR_s, gR_d, eI_s, eI_d, eI_e, eR_s, eR_d, eR_e, eL_s, eL_d, bs_bump, cc_bump, cs_bump, sh_bump, gI_bump, gR_bump, eI_bump, eR_bump, eL_bump, hks.1], hks.2.1, hks.2.2⟩
  · simp (disch := omega) only [bs_pI, cc_pI, cs_pI, sh_pI, gR_pI, eI_pI, eR_pI, eL_pI, bs_pR, cc_pR, cs_pR, sh_pR, gI_pR, eI_pR, eR_pR, eL_pR, bs_uI, cc_uI, cs_uI, sh_uI, gI_uI, gR_uI, eR_uI, eL_uI, bs_uR, cc_uR, cs_uR, sh_uR, gI_uR, gR_uR, eI_uR, eL_uR, bs_uL, cc_uL, cs_uL, sh_uL, gI_uL, gR_uL, eI_uL, eR_uL, gI_s, gI_d, gR_s, gR_d, eI_s, eI_d, eI_e, eR_s, eR_d, eR_e, eL_s, eL_d, bs_bump, cc_bump, cs_bump, sh_bump, gI_bump, gR_bump, eI_bump, eR_bump, eL_bump, g4]
  · simp only [kV_v]
    have hC2 := hC0.mnew hS hM f2 g2
    have e : (fun _ : Nat => 0) = fun c => pN (RdN S (hInd xs) 0 c) := by
      funext c
      rw [pN_f]
      rintro ⟨i', q, -⟩
      exact absurd q (Nat.not_lt_zero _)
    rw [e] at hC2
    refine file_loop (σ0 := σ2) hn hM hS (fun σ' h1 h2 => hk σ' h1 ?_) S.2.2.2.length 0 σ2 (by omega) hC2 Fr.rf
    exact ((f1.mo (fun q hq => Or.inl hq)).tr (f2.mo (fun q hq => Or.inr (by unfold mP mA at hq; omega)))).tr (h2.mo (fun q hq => Or.inr (by unfold mP mA at hq; omega)))
end Desk4
