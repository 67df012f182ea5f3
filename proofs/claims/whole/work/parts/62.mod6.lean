/-! ===== the reference: routes ===== -/
def Uq (R : List RO) : Prop := ∀ i j, i < R.length → j < R.length → (R.getD i r0).1 = (R.getD j r0).1 → i = j
def Rb (R : List RO) : Prop := ∀ i, i < R.length → (R.getD i r0).1 < 456976 ∧ (R.getD i r0).2.1 < 8 ∧ (R.getD i r0).2.2.1 < 8 ∧ (R.getD i r0).2.2.2.length ≤ 4 ∧ ∀ m ∈ (R.getD i r0).2.2.2, m < 456976
/-- what a call of the reference leaves -/
def Aft (σ : PH) (A : Nat) (S : SP) (f : Nat) (k : PH → Prop) : Prop := ∀ σ', MR σ' A S → gI σ' 704 A = nI f → Fr (gP A) σ σ' → k σ'
section Mod6
variable {d : Nat} {σ : PH} {K : PO → PH → Prop} {A : Nat} {S : SP} {R : List RO}
theorem Aft.at {k : PH → Prop} {f : Nat} (h : Aft σ A S f k) (hM : MR σ A S) : k (pI σ 704 A (nI f)) := h _ (hM.sc sc704) gI_s fr704
theorem routeAt_loop {n : Nat} (hz : MZ σ A) (ho : MO σ A R) (hu : Uq R) (hb : Rb R) (hn : n < 456976) (hk : K (.inl (some (.int (if rix R n < R.length then nI (rix R n) else m1)))) σ) : ∀ (m k : Nat), k + m = R.length → PW d M_Mod_routeAt 4 [.ref A, .int (nI n), .int (if rix R n < k then nI (rix R n) else m1), .int (nI k)] [] σ K := by
  obtain ⟨o1, o2, o3⟩ := ho
  obtain ⟨p1, p2, p3⟩ := rix_spec R n
  intro m
  induction m with
  | zero =>
    intro k hm
    refine e_Mod_routeAt_4 A _ _ _ ?_
    simp (disch := omega) only [l_0, l_1, l_2, l_3, l_4, l_5, l_6, l_7, l_8, l_9, l_10, l_11, l_12, l_13, l_14, l_15, l_16, l_17, l_18, l_19, l_20, l_21, l_22, l_23, l_24, l_25, l_26, l_27, l_28, l_29, l_30, l_31, l_32, l_33, l_34, l_35, l_36, l_37, l_38, l_39, l_40, l_41, l_42, l_43, l_44, l_45, l_46, l_47, l_48, l_49, l_50, l_51, l_52, l_53, l_54, l_55, l_56, l_57, l_58, l_59, l_60, l_61, l_62, l_63, l_64, l_65, l_66, l_67, l_68, l_69, l_70, l_71, l_72, l_73, l_74, l_75, l_76, l_77, l_78, l_79, l_80, l_81, l_82, l_83, l_84, l_85, l_86, l_87, l_88, l_89, l_90, l_91, l_92, l_93, l_94, l_95, l_96, l_97, l_98, l_99, l_100, l_101, l_102, l_103, l_104, l_105, l_106, l_107, l_108, l_109, l_110, l_111, l_112, l_113, l_114, l_115, l_116, l_117, l_118, l_119, l_120, l_121, l_122, l_123, l_124, l_125, l_126, l_127, l_128, l_129, l_130, l_256, l_512, l_676, l_704, l_999, l_1000, l_4096, l_17576, l_32768, l_65535, l_456975, l_456976, l_m1, l_m2, in_iff, eq_m1, m1_eq, m1_lt, m1_le, le_m1, lt_m1, eq_m2, m2_m1, m1_m2, add_m1, m1_add, sub_n, mul_n, add_n, bo_n0, bo_n1, ch_n, lt_n, le_n, eq_n, ix_n, i2c_n, rem_n, div_n, hz.1, o1, true_and]
    rw [if_pos (by omega), show k = R.length by omega]
    exact hk
  | succ m ih =>
    intro k hm
    have hn := ih (k + 1) (by omega)
    have hbk := (hb k (by omega)).1
    refine e_Mod_routeAt_4 A _ _ _ ⟨hz.1, ?_⟩
    rw [o1, if_neg (fun q => by have := (nI_le_iff (by omega) (by omega)).mp q; omega)]
    refine ⟨A + 8, z_713 hz, 12, s_713 hz, in_n (by omega) (by decide), ?_⟩
    rw [ix_n (by omega), (o3 k (by omega)).1]
    by_cases he : (R.getD k r0).1 = n
    · have hk2 : rix R n = k := by
        have : rix R n ≤ k := by
          by_cases h : k < rix R n
          · exact absurd he (p2 k h)
          · omega
        exact hu _ _ (by omega) (by omega) (by rw [p3 (by omega), he])
      rw [if_pos (by rw [he])]
      refine e_Mod_routeAt_27 A _ _ _ ?_
      rw [nI_1]
      rw [if_pos (by omega), hk2] at hn
      exact hn
    · have hk2 : rix R n ≠ k := fun q => he (by rw [← q]; exact p3 (by omega))
      rw [if_neg (fun q => he ((nI_eq_iff (by omega) (by omega)).mp q))]
      refine e_Mod_routeAt_27 A _ _ _ ?_
      rw [nI_1]
      by_cases h : rix R n < k
      · rw [if_pos h]; rw [if_pos (by omega)] at hn; exact hn
      · rw [if_neg h]; rw [if_neg (by omega)] at hn; exact hn
theorem c_routeAt {n : Nat} (hz : MZ σ A) (ho : MO σ A R) (hu : Uq R) (hb : Rb R) (hn : n < 456976) (hk : K (.inl (some (.int (if rix R n < R.length then nI (rix R n) else m1)))) σ) : PW d M_Mod_routeAt 0 [.ref A, .int (nI n), uu, uu] [] σ K := by
  refine e_Mod_routeAt_0 A _ ?_
  have := routeAt_loop (d := d) hz ho hu hb hn hk R.length 0 (by omega)
  rw [if_neg (by omega)] at this
  exact this
theorem c_addRoute {n k : Nat} (hz : MZ σ A) (ho : MO σ A R) (hl : R.length < 12) (hk : K (.inl (some (.int (nI R.length)))) (pI (uI (uI (uI σ (A + 8) R.length (nI n)) (A + 9) R.length (nI k)) (A + 12) R.length (nI 0)) 712 A (nI (R.length + 1)))) : PW d M_Mod_addRoute 0 [.ref A, .int (nI n), .int (nI k)] [] σ K := by
  refine e_Mod_addRoute_0 A _ _ ?_
  simp (disch := omega) only [bs_pI, cc_pI, cs_pI, sh_pI, gR_pI, eI_pI, eR_pI, eL_pI, bs_pR, cc_pR, cs_pR, sh_pR, gI_pR, eI_pR, eR_pR, eL_pR, bs_uI, cc_uI, cs_uI, sh_uI, gI_uI, gR_uI, eR_uI, eL_uI, bs_uR, cc_uR, cs_uR, sh_uR, gI_uR, gR_uR, eI_uR, eL_uR, bs_uL, cc_uL, cs_uL, sh_uL, gI_uL, gR_uL, eI_uL, eR_uL, gI_s, gI_d, gR_s, gR_d, eI_s, eI_d, eI_e, eR_s, eR_d, eR_e, eL_s, eL_d, bs_bump, cc_bump, cs_bump, sh_bump, gI_bump, gR_bump, eI_bump, eR_bump, eL_bump, l_0, l_1, l_2, l_3, l_4, l_5, l_6, l_7, l_8, l_9, l_10, l_11, l_12, l_13, l_14, l_15, l_16, l_17, l_18, l_19, l_20, l_21, l_22, l_23, l_24, l_25, l_26, l_27, l_28, l_29, l_30, l_31, l_32, l_33, l_34, l_35, l_36, l_37, l_38, l_39, l_40, l_41, l_42, l_43, l_44, l_45, l_46, l_47, l_48, l_49, l_50, l_51, l_52, l_53, l_54, l_55, l_56, l_57, l_58, l_59, l_60, l_61, l_62, l_63, l_64, l_65, l_66, l_67, l_68, l_69, l_70, l_71, l_72, l_73, l_74, l_75, l_76, l_77, l_78, l_79, l_80, l_81, l_82, l_83, l_84, l_85, l_86, l_87, l_88, l_89, l_90, l_91, l_92, l_93, l_94, l_95, l_96, l_97, l_98, l_99, l_100, l_101, l_102, l_103, l_104, l_105, l_106, l_107, l_108, l_109, l_110, l_111, l_112, l_113, l_114, l_115, l_116, l_117, l_118, l_119, l_120, l_121, l_122, l_123, l_124, l_125, l_126, l_127, l_128, l_129, l_130, l_256, l_512, l_676, l_704, l_999, l_1000, l_4096, l_17576, l_32768, l_65535, l_456975, l_456976, l_m1, l_m2, in_iff, eq_m1, m1_eq, m1_lt, m1_le, le_m1, lt_m1, eq_m2, m2_m1, m1_m2, add_m1, m1_add, sub_n, mul_n, add_n, bo_n0, bo_n1, ch_n, lt_n, le_n, eq_n, ix_n, i2c_n, rem_n, div_n, kI_i, kI_x, kV_v, kV_x, kR_r, kR_n, kR_x, kHI_i, kHI_0, kHI_1, kHV_v, kHV_0, kHV_1, va_s, va_n, exists_eq_left', exists_eq_left, forall_eq, forall_eq', and_true, true_and, and_self, Option.some.injEq, Prod.mk.injEq, if_tt, if_ff, reduceIte, reduceCtorEq, not_true_eq_false, not_false_eq_true, Nat.reduceAdd, Nat.reduceMul, Nat.reduceSub, Nat.reduceLT, Nat.reduceLeDiff, Nat.reduceEqDiff, false_implies, true_implies, implies_true, hz.1, z_713 hz, s_713 hz, z_714 hz, s_714 hz, z_717 hz, s_717 hz, ho.1]
  refine ⟨by omega, by omega, by omega, ?_⟩
  rw [show R.length + 1 - 1 = R.length by omega]
  exact hk
theorem getD_setR {k i : Nat} {r : RO} (hk : k < R.length) : (R.set k r).getD i r0 = if i = k then r else R.getD i r0 := by
  rw [List.getD_eq_getElem?_getD]
  by_cases h : i = k
  · rw [if_pos h, h, List.getElem?_set_self hk]; rfl
  · rw [if_neg h, List.getElem?_set_ne (fun q => h q.symm), ← List.getD_eq_getElem?_getD]
theorem getD_snocR {r : RO} {i : Nat} : (R ++ [r]).getD i r0 = if i < R.length then R.getD i r0 else if i = R.length then r else r0 := by
  rw [List.getD_eq_getElem?_getD, List.getD_eq_getElem?_getD]
  split
  · rename_i h; rw [List.getElem?_append_left h]
  · rename_i h
    rw [List.getElem?_append_right (by omega)]
    split
    · rename_i h2; simp [h2]
    · rename_i h2; rw [List.getElem?_eq_none (by simp; omega)]; rfl
def roF (f : Nat) : Prop := f = 704 ∨ f = 712
def roP (A a _j : Nat) : Prop := A + 8 ≤ a ∧ a ≤ A + 13
theorem roFr {σ' : PH} (h : MF roF (roP A) A σ σ') : Fr (gP A) σ σ' := h.fr (fun a j q => by unfold roP at q; unfold gP; omega)
theorem roMR {σ' : PH} (hM : MR σ A S) (h : MF roF (roP A) A σ σ') (ho : MO σ' A R) : MR σ' A (uR' S R) := hM.rout (h.mo (fun f q => by unfold roF at q; unfold scF; omega) (fun a j q => Or.inr q)) ho
theorem route_end {i c a f : Nat} (hM : MR σ A S) (hc : c < 8) (ha : a < 8) (hi : i < 456976) (hf : f ≤ 2) (hs : f = 0 → (rix S.2.2.2 i < S.2.2.2.length → (S.2.2.2.getD (rix S.2.2.2 i) r0).2.2.2 = []) ∧ (¬ rix S.2.2.2 i < S.2.2.2.length → S.2.2.2.length < 12)) (hk0 : f = 0 → Aft σ A (uR' S (rtR S.2.2.2 i c a)) 0 (K (.inl none))) (hk1 : f ≠ 0 → Aft σ A S f (K (.inl none))) : PW (d + 1) M_Mod_route 101 [.ref A, .int (nI i), .int (nI c), .int (nI a), uu, .int (if rix S.2.2.2 i < S.2.2.2.length then nI (rix S.2.2.2 i) else m1)] [.int (nI f), .ref A] σ K := by
  have hM0 := hM
  obtain ⟨hz, -, ho, -, -⟩ := hM
  have ho0 := ho
  obtain ⟨o1, o2, o3⟩ := ho
  refine e_Mod_route_101 A _ _ _ _ _ _ ⟨hz.1, c_refused hz hf ?_⟩
  simp only [kI_i]
  by_cases h0 : f = 0
  · subst h0
    have hk := hk0 rfl
    obtain ⟨s1, s2⟩ := hs rfl
    clear hk0 hk1 hs
    rw [if_pos (by decide)]
    unfold rtR at hk
    have f0 : MF roF (roP A) A σ (pI σ 704 A (nI 0)) := MF.pI (Or.inl rfl)
    have hz0 := f0.z hz
    by_cases hr : rix S.2.2.2 i < S.2.2.2.length
    · rw [if_pos hr] at hk ⊢
      rw [if_pos (show (0 : Int32) ≤ nI (rix S.2.2.2 i) from (nI_le_iff (a := 0) (by decide) (by omega)).mpr (by omega))]
      have s1 := s1 hr
      have p3 := (rix_spec S.2.2.2 i).2.2 hr
      simp (disch := omega) only [bs_pI, cc_pI, cs_pI, sh_pI, gR_pI, eI_pI, eR_pI, eL_pI, bs_pR, cc_pR, cs_pR, sh_pR, gI_pR, eI_pR, eR_pR, eL_pR, bs_uI, cc_uI, cs_uI, sh_uI, gI_uI, gR_uI, eR_uI, eL_uI, bs_uR, cc_uR, cs_uR, sh_uR, gI_uR, gR_uR, eI_uR, eL_uR, bs_uL, cc_uL, cs_uL, sh_uL, gI_uL, gR_uL, eI_uL, eR_uL, gI_s, gI_d, gR_s, gR_d, eI_s, eI_d, eI_e, eR_s, eR_d, eR_e, eL_s, eL_d, bs_bump, cc_bump, cs_bump, sh_bump, gI_bump, gR_bump, eI_bump, eR_bump, eL_bump, l_0, l_1, l_2, l_3, l_4, l_5, l_6, l_7, l_8, l_9, l_10, l_11, l_12, l_13, l_14, l_15, l_16, l_17, l_18, l_19, l_20, l_21, l_22, l_23, l_24, l_25, l_26, l_27, l_28, l_29, l_30, l_31, l_32, l_33, l_34, l_35, l_36, l_37, l_38, l_39, l_40, l_41, l_42, l_43, l_44, l_45, l_46, l_47, l_48, l_49, l_50, l_51, l_52, l_53, l_54, l_55, l_56, l_57, l_58, l_59, l_60, l_61, l_62, l_63, l_64, l_65, l_66, l_67, l_68, l_69, l_70, l_71, l_72, l_73, l_74, l_75, l_76, l_77, l_78, l_79, l_80, l_81, l_82, l_83, l_84, l_85, l_86, l_87, l_88, l_89, l_90, l_91, l_92, l_93, l_94, l_95, l_96, l_97, l_98, l_99, l_100, l_101, l_102, l_103, l_104, l_105, l_106, l_107, l_108, l_109, l_110, l_111, l_112, l_113, l_114, l_115, l_116, l_117, l_118, l_119, l_120, l_121, l_122, l_123, l_124, l_125, l_126, l_127, l_128, l_129, l_130, l_256, l_512, l_676, l_704, l_999, l_1000, l_4096, l_17576, l_32768, l_65535, l_456975, l_456976, l_m1, l_m2, in_iff, eq_m1, m1_eq, m1_lt, m1_le, le_m1, lt_m1, eq_m2, m2_m1, m1_m2, add_m1, m1_add, sub_n, mul_n, add_n, bo_n0, bo_n1, ch_n, lt_n, le_n, eq_n, ix_n, i2c_n, rem_n, div_n, kI_i, kI_x, kV_v, kV_x, kR_r, kR_n, kR_x, kHI_i, kHI_0, kHI_1, kHV_v, kHV_0, kHV_1, va_s, va_n, exists_eq_left', exists_eq_left, forall_eq, forall_eq', and_true, true_and, and_self, Option.some.injEq, Prod.mk.injEq, if_tt, if_ff, reduceIte, reduceCtorEq, not_true_eq_false, not_false_eq_true, Nat.reduceAdd, Nat.reduceMul, Nat.reduceSub, Nat.reduceLT, Nat.reduceLeDiff, Nat.reduceEqDiff, false_implies, true_implies, implies_true, hz.1, z_715 hz, s_715 hz, z_716 hz, s_716 hz]
      refine ⟨by omega, by omega, ?_⟩
      have f1 : MF roF (roP A) A σ (uI (uI (pI σ 704 A (nI 0)) (A + 10) (rix S.2.2.2 i) (nI c)) (A + 11) (rix S.2.2.2 i) (nI a)) := (f0.tr (MF.uI (by unfold roP; omega))).tr (MF.uI (by unfold roP; omega))
      refine hk _ (roMR hM0 f1 ⟨?_, ?_, fun k hk2 => ?_⟩) ?_ (roFr f1)
      · simp (disch := omega) only [bs_pI, cc_pI, cs_pI, sh_pI, gR_pI, eI_pI, eR_pI, eL_pI, bs_pR, cc_pR, cs_pR, sh_pR, gI_pR, eI_pR, eR_pR, eL_pR, bs_uI, cc_uI, cs_uI, sh_uI, gI_uI, gR_uI, eR_uI, eL_uI, bs_uR, cc_uR, cs_uR, sh_uR, gI_uR, gR_uR, eI_uR, eL_uR, bs_uL, cc_uL, cs_uL, sh_uL, gI_uL, gR_uL, eI_uL, eR_uL, gI_s, gI_d, gR_s, gR_d, eI_s, eI_d, eI_e, eR_s, eR_d, eR_e, eL_s, eL_d, bs_bump, cc_bump, cs_bump, sh_bump, gI_bump, gR_bump, eI_bump, eR_bump, eL_bump]; rw [List.length_set]; exact o1
      · rw [List.length_set]; exact o2
      · rw [List.length_set] at hk2
        rw [getD_setR hr]
        obtain ⟨b1, b2, b3, b4, b5, b6⟩ := o3 k hk2
        by_cases hkr : k = rix S.2.2.2 i
        · rw [if_pos hkr]
          subst hkr
          rw [s1] at b2 b4
          rw [p3] at b1
          simp (disch := omega) only [bs_pI, cc_pI, cs_pI, sh_pI, gR_pI, eI_pI, eR_pI, eL_pI, bs_pR, cc_pR, cs_pR, sh_pR, gI_pR, eI_pR, eR_pR, eL_pR, bs_uI, cc_uI, cs_uI, sh_uI, gI_uI, gR_uI, eR_uI, eL_uI, bs_uR, cc_uR, cs_uR, sh_uR, gI_uR, gR_uR, eI_uR, eL_uR, bs_uL, cc_uL, cs_uL, sh_uL, gI_uL, gR_uL, eI_uL, eR_uL, gI_s, gI_d, gR_s, gR_d, eI_s, eI_d, eI_e, eR_s, eR_d, eR_e, eL_s, eL_d, bs_bump, cc_bump, cs_bump, sh_bump, gI_bump, gR_bump, eI_bump, eR_bump, eL_bump]
          exact ⟨b1, b2, fun _ => ⟨by first | trivial | rfl, by first | trivial | rfl⟩, b4, by simp, fun q hq => absurd hq (Nat.not_lt_zero _)⟩
        · rw [if_neg hkr]
          simp (disch := omega) only [bs_pI, cc_pI, cs_pI, sh_pI, gR_pI, eI_pI, eR_pI, eL_pI, bs_pR, cc_pR, cs_pR, sh_pR, gI_pR, eI_pR, eR_pR, eL_pR, bs_uI, cc_uI, cs_uI, sh_uI, gI_uI, gR_uI, eR_uI, eL_uI, bs_uR, cc_uR, cs_uR, sh_uR, gI_uR, gR_uR, eI_uR, eL_uR, bs_uL, cc_uL, cs_uL, sh_uL, gI_uL, gR_uL, eI_uL, eR_uL, gI_s, gI_d, gR_s, gR_d, eI_s, eI_d, eI_e, eR_s, eR_d, eR_e, eL_s, eL_d, bs_bump, cc_bump, cs_bump, sh_bump, gI_bump, gR_bump, eI_bump, eR_bump, eL_bump]
          exact ⟨b1, b2, b3, b4, b5, b6⟩
      · simp (disch := omega) only [bs_pI, cc_pI, cs_pI, sh_pI, gR_pI, eI_pI, eR_pI, eL_pI, bs_pR, cc_pR, cs_pR, sh_pR, gI_pR, eI_pR, eR_pR, eL_pR, bs_uI, cc_uI, cs_uI, sh_uI, gI_uI, gR_uI, eR_uI, eL_uI, bs_uR, cc_uR, cs_uR, sh_uR, gI_uR, gR_uR, eI_uR, eL_uR, bs_uL, cc_uL, cs_uL, sh_uL, gI_uL, gR_uL, eI_uL, eR_uL, gI_s, gI_d, gR_s, gR_d, eI_s, eI_d, eI_e, eR_s, eR_d, eR_e, eL_s, eL_d, bs_bump, cc_bump, cs_bump, sh_bump, gI_bump, gR_bump, eI_bump, eR_bump, eL_bump]
    · rw [if_neg hr] at hk ⊢
      rw [if_neg (by decide)]
      have s2 := s2 hr
      refine ⟨hz0.1, c_addRoute (R := S.2.2.2) hz0 ⟨by simp (disch := omega) only [bs_pI, cc_pI, cs_pI, sh_pI, gR_pI, eI_pI, eR_pI, eL_pI, bs_pR, cc_pR, cs_pR, sh_pR, gI_pR, eI_pR, eR_pR, eL_pR, bs_uI, cc_uI, cs_uI, sh_uI, gI_uI, gR_uI, eR_uI, eL_uI, bs_uR, cc_uR, cs_uR, sh_uR, gI_uR, gR_uR, eI_uR, eL_uR, bs_uL, cc_uL, cs_uL, sh_uL, gI_uL, gR_uL, eI_uL, eR_uL, gI_s, gI_d, gR_s, gR_d, eI_s, eI_d, eI_e, eR_s, eR_d, eR_e, eL_s, eL_d, bs_bump, cc_bump, cs_bump, sh_bump, gI_bump, gR_bump, eI_bump, eR_bump, eL_bump]; exact o1, o2, o3⟩ s2 ?_⟩
      have f1 : MF roF (roP A) A σ (pI (uI (uI (uI (pI σ 704 A (nI 0)) (A + 8) S.2.2.2.length (nI i)) (A + 9) S.2.2.2.length (nI 1)) (A + 12) S.2.2.2.length (nI 0)) 712 A (nI (S.2.2.2.length + 1))) := (((f0.tr (MF.uI (by unfold roP; omega))).tr (MF.uI (by unfold roP; omega))).tr (MF.uI (by unfold roP; omega))).tr (MF.pI (Or.inr rfl))
      simp (disch := omega) only [bs_pI, cc_pI, cs_pI, sh_pI, gR_pI, eI_pI, eR_pI, eL_pI, bs_pR, cc_pR, cs_pR, sh_pR, gI_pR, eI_pR, eR_pR, eL_pR, bs_uI, cc_uI, cs_uI, sh_uI, gI_uI, gR_uI, eR_uI, eL_uI, bs_uR, cc_uR, cs_uR, sh_uR, gI_uR, gR_uR, eI_uR, eL_uR, bs_uL, cc_uL, cs_uL, sh_uL, gI_uL, gR_uL, eI_uL, eR_uL, gI_s, gI_d, gR_s, gR_d, eI_s, eI_d, eI_e, eR_s, eR_d, eR_e, eL_s, eL_d, bs_bump, cc_bump, cs_bump, sh_bump, gI_bump, gR_bump, eI_bump, eR_bump, eL_bump, l_0, l_1, l_2, l_3, l_4, l_5, l_6, l_7, l_8, l_9, l_10, l_11, l_12, l_13, l_14, l_15, l_16, l_17, l_18, l_19, l_20, l_21, l_22, l_23, l_24, l_25, l_26, l_27, l_28, l_29, l_30, l_31, l_32, l_33, l_34, l_35, l_36, l_37, l_38, l_39, l_40, l_41, l_42, l_43, l_44, l_45, l_46, l_47, l_48, l_49, l_50, l_51, l_52, l_53, l_54, l_55, l_56, l_57, l_58, l_59, l_60, l_61, l_62, l_63, l_64, l_65, l_66, l_67, l_68, l_69, l_70, l_71, l_72, l_73, l_74, l_75, l_76, l_77, l_78, l_79, l_80, l_81, l_82, l_83, l_84, l_85, l_86, l_87, l_88, l_89, l_90, l_91, l_92, l_93, l_94, l_95, l_96, l_97, l_98, l_99, l_100, l_101, l_102, l_103, l_104, l_105, l_106, l_107, l_108, l_109, l_110, l_111, l_112, l_113, l_114, l_115, l_116, l_117, l_118, l_119, l_120, l_121, l_122, l_123, l_124, l_125, l_126, l_127, l_128, l_129, l_130, l_256, l_512, l_676, l_704, l_999, l_1000, l_4096, l_17576, l_32768, l_65535, l_456975, l_456976, l_m1, l_m2, in_iff, eq_m1, m1_eq, m1_lt, m1_le, le_m1, lt_m1, eq_m2, m2_m1, m1_m2, add_m1, m1_add, sub_n, mul_n, add_n, bo_n0, bo_n1, ch_n, lt_n, le_n, eq_n, ix_n, i2c_n, rem_n, div_n, kI_i, kI_x, kV_v, kV_x, kR_r, kR_n, kR_x, kHI_i, kHI_0, kHI_1, kHV_v, kHV_0, kHV_1, va_s, va_n, exists_eq_left', exists_eq_left, forall_eq, forall_eq', and_true, true_and, and_self, Option.some.injEq, Prod.mk.injEq, if_tt, if_ff, reduceIte, reduceCtorEq, not_true_eq_false, not_false_eq_true, Nat.reduceAdd, Nat.reduceMul, Nat.reduceSub, Nat.reduceLT, Nat.reduceLeDiff, Nat.reduceEqDiff, false_implies, true_implies, implies_true, hz.1, z_715 hz, s_715 hz, z_716 hz, s_716 hz]
      refine ⟨by omega, by omega, ?_⟩
      refine hk _ (roMR hM0 ((f1.tr (MF.uI (by unfold roP; omega))).tr (MF.uI (by unfold roP; omega))) ⟨?_, ?_, fun k hk2 => ?_⟩) ?_ (roFr ((f1.tr (MF.uI (by unfold roP; omega))).tr (MF.uI (by unfold roP; omega))))
      · simp (disch := omega) only [bs_pI, cc_pI, cs_pI, sh_pI, gR_pI, eI_pI, eR_pI, eL_pI, bs_pR, cc_pR, cs_pR, sh_pR, gI_pR, eI_pR, eR_pR, eL_pR, bs_uI, cc_uI, cs_uI, sh_uI, gI_uI, gR_uI, eR_uI, eL_uI, bs_uR, cc_uR, cs_uR, sh_uR, gI_uR, gR_uR, eI_uR, eL_uR, bs_uL, cc_uL, cs_uL, sh_uL, gI_uL, gR_uL, eI_uL, eR_uL, gI_s, gI_d, gR_s, gR_d, eI_s, eI_d, eI_e, eR_s, eR_d, eR_e, eL_s, eL_d, bs_bump, cc_bump, cs_bump, sh_bump, gI_bump, gR_bump, eI_bump, eR_bump, eL_bump]; simp
      · simp; omega
      · simp at hk2
        rw [getD_snocR]
        by_cases hkr : k < S.2.2.2.length
        · rw [if_pos hkr]
          simp (disch := omega) only [bs_pI, cc_pI, cs_pI, sh_pI, gR_pI, eI_pI, eR_pI, eL_pI, bs_pR, cc_pR, cs_pR, sh_pR, gI_pR, eI_pR, eR_pR, eL_pR, bs_uI, cc_uI, cs_uI, sh_uI, gI_uI, gR_uI, eR_uI, eL_uI, bs_uR, cc_uR, cs_uR, sh_uR, gI_uR, gR_uR, eI_uR, eL_uR, bs_uL, cc_uL, cs_uL, sh_uL, gI_uL, gR_uL, eI_uL, eR_uL, gI_s, gI_d, gR_s, gR_d, eI_s, eI_d, eI_e, eR_s, eR_d, eR_e, eL_s, eL_d, bs_bump, cc_bump, cs_bump, sh_bump, gI_bump, gR_bump, eI_bump, eR_bump, eL_bump]
          exact o3 k hkr
        · have : k = S.2.2.2.length := by omega
          subst this
          rw [if_neg hkr, if_pos rfl]
          simp (disch := omega) only [bs_pI, cc_pI, cs_pI, sh_pI, gR_pI, eI_pI, eR_pI, eL_pI, bs_pR, cc_pR, cs_pR, sh_pR, gI_pR, eI_pR, eR_pR, eL_pR, bs_uI, cc_uI, cs_uI, sh_uI, gI_uI, gR_uI, eR_uI, eL_uI, bs_uR, cc_uR, cs_uR, sh_uR, gI_uR, gR_uR, eI_uR, eL_uR, bs_uL, cc_uL, cs_uL, sh_uL, gI_uL, gR_uL, eI_uL, eR_uL, gI_s, gI_d, gR_s, gR_d, eI_s, eI_d, eI_e, eR_s, eR_d, eR_e, eL_s, eL_d, bs_bump, cc_bump, cs_bump, sh_bump, gI_bump, gR_bump, eI_bump, eR_bump, eL_bump]
          exact ⟨by first | trivial | rfl, by first | trivial | rfl, fun _ => ⟨by first | trivial | rfl, by first | trivial | rfl⟩, by first | trivial | rfl, by simp, fun q hq => absurd hq (Nat.not_lt_zero _)⟩
      · simp (disch := omega) only [bs_pI, cc_pI, cs_pI, sh_pI, gR_pI, eI_pI, eR_pI, eL_pI, bs_pR, cc_pR, cs_pR, sh_pR, gI_pR, eI_pR, eR_pR, eL_pR, bs_uI, cc_uI, cs_uI, sh_uI, gI_uI, gR_uI, eR_uI, eL_uI, bs_uR, cc_uR, cs_uR, sh_uR, gI_uR, gR_uR, eI_uR, eL_uR, bs_uL, cc_uL, cs_uL, sh_uL, gI_uL, gR_uL, eI_uL, eR_uL, gI_s, gI_d, gR_s, gR_d, eI_s, eI_d, eI_e, eR_s, eR_d, eR_e, eL_s, eL_d, bs_bump, cc_bump, cs_bump, sh_bump, gI_bump, gR_bump, eI_bump, eR_bump, eL_bump]
  · have hk := hk1 h0
    rw [if_neg (show ¬ nI (decide (0 < f)).toNat = 0 by rw [decide_eq_true (by omega)]; decide)]
    exact hk.at hM0
theorem q_route {x y z : Int32} (hM : MR σ A S) (hu : Uq S.2.2.2) (hb : Rb S.2.2.2) (hkA : (x < 0 ∨ ¬ x ≤ 456975) ∨ (y < 0 ∨ ¬ y ≤ 7) ∨ (z < 0 ∨ ¬ z ≤ 7) → Aft σ A S 1 (K (.inl none))) (hk : ∀ i c a, i < 456976 → c < 8 → a < 8 → x = nI i → y = nI c → z = nI a → (rtBad S.2.2.2 i → Aft σ A S 1 (K (.inl none))) ∧ (¬ rtBad S.2.2.2 i → rtFull S.2.2.2 i → Aft σ A S 2 (K (.inl none))) ∧ (¬ rtBad S.2.2.2 i → ¬ rtFull S.2.2.2 i → Aft σ A (uR' S (rtR S.2.2.2 i c a)) 0 (K (.inl none)))) : PW (d + 2) M_Mod_route 0 [.ref A, .int x, .int y, .int z, uu, uu] [] σ K := by
  have hz := hM.1
  have ho := hM.2.2.1
  have bad : ((x < 0 ∨ ¬ x ≤ 456975) ∨ (y < 0 ∨ ¬ y ≤ 7) ∨ (z < 0 ∨ ¬ z ≤ 7)) → PW (d + 2) M_Mod_route 25 [.ref A, .int x, .int y, .int z, uu, uu] [] σ K := by
    intro q
    refine e_Mod_route_25 A _ _ _ (e_Mod_route_26 A _ _ _ _ ?_)
    rw [if_pos rfl]
    refine e_Mod_route_42 A _ _ _ _ _ ?_
    rw [if_pos rfl]
    refine e_Mod_route_69 A _ _ _ _ (e_Mod_route_70 A _ _ _ _ _ ?_)
    rw [if_pos rfl]
    refine e_Mod_route_101 A _ _ _ _ _ _ ⟨hz.1, c_refused (n := 1) hz (by omega) ?_⟩
    simp only [kI_i]
    rw [if_neg (by decide)]
    exact (hkA q).at hM
  refine e_Mod_route_0 A _ _ _ (c_isCode (fun i hi ei => ?_) (fun q => ?_))
  · simp only [kI_i]
    rw [if_neg (by decide)]
    refine c_isChannel (fun c hc ec => ?_) (fun q => ?_)
    · simp only [kI_i]
      rw [if_neg (by decide)]
      refine c_isChannel (fun a ha ea => ?_) (fun q => ?_)
      · simp only [kI_i]
        rw [if_neg (by decide)]
        subst ei ec ea
        obtain ⟨k1, k2, k3⟩ := hk i c a hi hc ha rfl rfl rfl
        refine e_Mod_route_26 A _ _ _ _ ?_
        rw [if_neg (by decide)]
        refine ⟨hz.1, c_routeAt hz ho hu hb hi ?_⟩
        simp only [kI_i]
        refine e_Mod_route_42 A _ _ _ _ _ ?_
        rw [if_neg (by decide)]
        have o2 := ho.2.1
        have fin : ∀ f, f ≤ 2 → (f = 0 → (rix S.2.2.2 i < S.2.2.2.length → (S.2.2.2.getD (rix S.2.2.2 i) r0).2.2.2 = []) ∧ (¬ rix S.2.2.2 i < S.2.2.2.length → S.2.2.2.length < 12)) → (f = 0 → Aft σ A (uR' S (rtR S.2.2.2 i c a)) 0 (K (.inl none))) → (f ≠ 0 → Aft σ A S f (K (.inl none))) → PW (d + 2) M_Mod_route 101 [.ref A, .int (nI i), .int (nI c), .int (nI a), uu, .int (if rix S.2.2.2 i < S.2.2.2.length then nI (rix S.2.2.2 i) else m1)] [.int (nI f), .ref A] σ K := fun f f1 f2 f3 f4 => route_end (d := d + 1) hM hc ha hi f1 f2 f3 f4
        by_cases hr : rix S.2.2.2 i < S.2.2.2.length
        · rw [if_pos hr] at fin ⊢
          rw [if_neg (nI_lt0 (by omega))]
          obtain ⟨b1, b2, -⟩ := ho.2.2 _ hr
          refine ⟨hz.1, A + 9, z_714 hz, 12, s_714 hz, in_n (by omega) (by decide), ?_⟩
          rw [ix_n (by omega), b2]
          by_cases hg : (S.2.2.2.getD (rix S.2.2.2 i) r0).2.2.2 = []
          · rw [if_pos hg, if_pos (show nI 1 = (1 : Int32) by decide)]
            refine e_Mod_route_65 A _ _ _ _ (e_Mod_route_70 A _ _ _ _ _ ?_)
            rw [if_neg (by decide), if_pos (show (0 : Int32) ≤ nI (rix S.2.2.2 i) from (nI_le_iff (a := 0) (by decide) (by omega)).mpr (by omega))]
            refine e_Mod_route_100 A _ _ _ _ _ (fin 0 (by omega) (fun _ => ⟨fun _ => hg, fun q => absurd hr q⟩) (fun _ => k3 (fun q => q.2 hg) (fun q => q.1 hr)) (fun q => absurd rfl q))
          · rw [if_neg hg, if_neg (by decide)]
            refine e_Mod_route_69 A _ _ _ _ (e_Mod_route_70 A _ _ _ _ _ ?_)
            rw [if_pos rfl]
            exact fin 1 (by omega) (fun q => absurd q (by decide)) (fun q => absurd q (by decide)) (fun _ => k1 ⟨hr, hg⟩)
        · rw [if_neg hr] at fin ⊢
          rw [if_pos (by decide)]
          refine e_Mod_route_65 A _ _ _ _ (e_Mod_route_70 A _ _ _ _ _ ?_)
          rw [if_neg (by decide), if_neg (by decide)]
          refine ⟨hz.1, ?_⟩
          rw [ho.1]
          by_cases hl : S.2.2.2.length = 12
          · rw [if_pos (by rw [hl]; rfl)]
            exact fin 2 (by omega) (fun q => absurd q (by decide)) (fun q => absurd q (by decide)) (fun _ => k2 (fun q => hr q.1) ⟨hr, hl⟩)
          · rw [if_neg (show ¬ nI S.2.2.2.length = (12 : Int32) from fun q => hl ((nI_eq_iff (b := 12) (by omega) (by omega)).mp q))]
            refine e_Mod_route_100 A _ _ _ _ _ (fin 0 (by omega) (fun _ => ⟨fun q => absurd q hr, fun _ => by omega⟩) (fun _ => k3 (fun q => hr q.1) (fun q => hl q.2)) (fun q => absurd rfl q))
      · simp only [kI_i]
        rw [if_pos (by decide)]
        exact bad (Or.inr (Or.inr q))
    · simp only [kI_i]
      rw [if_pos (by decide)]
      exact bad (Or.inr (Or.inl q))
  · simp only [kI_i]
    rw [if_pos (by decide)]
    exact bad (Or.inl q)
theorem hasMember_loop {k x : Nat} {b0 : Bool} (hz : MZ σ A) (ho : MO σ A R) (hb : Rb R) (hkl : k < R.length) (hx : x < 456976) (hk : ∀ b : Bool, (b = true ↔ x ∈ (R.getD k r0).2.2.2) → K (.inl (some (.int (nI b.toNat)))) σ) : ∀ (n m : Nat) (b : Bool), m + n = (R.getD k r0).2.2.2.length → (b = true ↔ ∃ j, j < m ∧ (R.getD k r0).2.2.2.getD j 0 = x) → PW d M_Mod_hasMember 5 [.ref A, .int (nI k), .int (nI x), .int (nI b.toNat), .int (nI m)] [] σ K := by
  obtain ⟨o1, o2, o3⟩ := ho
  obtain ⟨p1, p2, p3, p4, p5, p6⟩ := o3 k hkl
  obtain ⟨q1, q2, q3, q4, q5⟩ := hb k hkl
  intro n
  induction n with
  | zero =>
    intro m b hm hbb
    refine e_Mod_hasMember_5 A _ _ _ _ ?_
    rw [if_neg (nI_lt0 (by omega))]
    refine ⟨hz.1, A + 12, z_717 hz, 12, s_717 hz, in_n (by omega) (by decide), ?_⟩
    rw [ix_n (by omega), p4, if_pos ((nI_le_iff (by omega) (by omega)).mpr (by omega))]
    refine ⟨nI_bo, hk b (hbb.trans ?_)⟩
    constructor
    · rintro ⟨j, j1, j2⟩; rw [← j2]; exact getD_mem (by omega)
    · intro q
      obtain ⟨j, hj, e⟩ := List.mem_iff_getElem.mp q
      exact ⟨j, by omega, by rw [List.getD_eq_getElem?_getD, List.getElem?_eq_getElem hj, e]; rfl⟩
  | succ n ih =>
    intro m b hm hbb
    have go : ∀ b' : Bool, (b' = true ↔ b = true ∨ (R.getD k r0).2.2.2.getD m 0 = x) → PW d M_Mod_hasMember 44 [.ref A, .int (nI k), .int (nI x), uu, .int (nI m)] [.int (nI b'.toNat)] σ K := by
      intro b' hb'
      refine e_Mod_hasMember_44 A _ _ _ _ ?_
      rw [nI_1]
      refine ih (m + 1) b' (by omega) (hb'.trans ?_)
      rw [hbb]
      constructor
      · rintro (⟨j, j1, j2⟩ | q)
        · exact ⟨j, by omega, j2⟩
        · exact ⟨m, by omega, q⟩
      · rintro ⟨j, j1, j2⟩
        by_cases hj : j = m
        · subst hj; exact Or.inr j2
        · exact Or.inl ⟨j, by omega, j2⟩
    have hlt := q5 _ (getD_mem (show m < (R.getD k r0).2.2.2.length by omega))
    refine e_Mod_hasMember_5 A _ _ _ _ ?_
    rw [if_neg (nI_lt0 (by omega))]
    refine ⟨hz.1, A + 12, z_717 hz, 12, s_717 hz, in_n (by omega) (by decide), ?_⟩
    rw [ix_n (by omega), p4, if_neg (fun q => by have := (nI_le_iff (by omega) (by omega)).mp q; omega)]
    cases b with
    | true => rw [if_neg (by decide)]; exact e_Mod_hasMember_39 A _ _ _ (go true ⟨fun _ => Or.inl rfl, fun _ => rfl⟩)
    | false =>
      rw [if_pos (by decide)]
      simp (disch := omega) only [bs_pI, cc_pI, cs_pI, sh_pI, gR_pI, eI_pI, eR_pI, eL_pI, bs_pR, cc_pR, cs_pR, sh_pR, gI_pR, eI_pR, eR_pR, eL_pR, bs_uI, cc_uI, cs_uI, sh_uI, gI_uI, gR_uI, eR_uI, eL_uI, bs_uR, cc_uR, cs_uR, sh_uR, gI_uR, gR_uR, eI_uR, eL_uR, bs_uL, cc_uL, cs_uL, sh_uL, gI_uL, gR_uL, eI_uL, eR_uL, gI_s, gI_d, gR_s, gR_d, eI_s, eI_d, eI_e, eR_s, eR_d, eR_e, eL_s, eL_d, bs_bump, cc_bump, cs_bump, sh_bump, gI_bump, gR_bump, eI_bump, eR_bump, eL_bump, l_0, l_1, l_2, l_3, l_4, l_5, l_6, l_7, l_8, l_9, l_10, l_11, l_12, l_13, l_14, l_15, l_16, l_17, l_18, l_19, l_20, l_21, l_22, l_23, l_24, l_25, l_26, l_27, l_28, l_29, l_30, l_31, l_32, l_33, l_34, l_35, l_36, l_37, l_38, l_39, l_40, l_41, l_42, l_43, l_44, l_45, l_46, l_47, l_48, l_49, l_50, l_51, l_52, l_53, l_54, l_55, l_56, l_57, l_58, l_59, l_60, l_61, l_62, l_63, l_64, l_65, l_66, l_67, l_68, l_69, l_70, l_71, l_72, l_73, l_74, l_75, l_76, l_77, l_78, l_79, l_80, l_81, l_82, l_83, l_84, l_85, l_86, l_87, l_88, l_89, l_90, l_91, l_92, l_93, l_94, l_95, l_96, l_97, l_98, l_99, l_100, l_101, l_102, l_103, l_104, l_105, l_106, l_107, l_108, l_109, l_110, l_111, l_112, l_113, l_114, l_115, l_116, l_117, l_118, l_119, l_120, l_121, l_122, l_123, l_124, l_125, l_126, l_127, l_128, l_129, l_130, l_256, l_512, l_676, l_704, l_999, l_1000, l_4096, l_17576, l_32768, l_65535, l_456975, l_456976, l_m1, l_m2, in_iff, eq_m1, m1_eq, m1_lt, m1_le, le_m1, lt_m1, eq_m2, m2_m1, m1_m2, add_m1, m1_add, sub_n, mul_n, add_n, bo_n0, bo_n1, ch_n, lt_n, le_n, eq_n, ix_n, i2c_n, rem_n, div_n, kI_i, kI_x, kV_v, kV_x, kR_r, kR_n, kR_x, kHI_i, kHI_0, kHI_1, kHV_v, kHV_0, kHV_1, va_s, va_n, exists_eq_left', exists_eq_left, forall_eq, forall_eq', and_true, true_and, and_self, Option.some.injEq, Prod.mk.injEq, if_tt, if_ff, reduceIte, reduceCtorEq, not_true_eq_false, not_false_eq_true, Nat.reduceAdd, Nat.reduceMul, Nat.reduceSub, Nat.reduceLT, Nat.reduceLeDiff, Nat.reduceEqDiff, false_implies, true_implies, implies_true, hz.1, z_718 hz, s_718 hz]
      rw [p6 m (by omega)]
      refine ⟨by omega, ?_⟩
      simp (disch := omega) only [eq_n]
      by_cases he : (R.getD k r0).2.2.2.getD m 0 = x
      · rw [if_pos he]; exact e_Mod_hasMember_39 A _ _ _ (go true ⟨fun _ => Or.inr he, fun _ => rfl⟩)
      · rw [if_neg he]; exact go false ⟨fun q => absurd q (by decide), fun q => by rcases q with q | q; exact absurd q (by decide); exact absurd q he⟩
theorem c_hasMember {k x : Nat} (hz : MZ σ A) (ho : MO σ A R) (hb : Rb R) (hx : x < 456976) (hk : ∀ b : Bool, (b = true ↔ k < R.length ∧ x ∈ (R.getD k r0).2.2.2) → K (.inl (some (.int (nI b.toNat)))) σ) : PW d M_Mod_hasMember 0 [.ref A, .int (if k < R.length then nI k else m1), .int (nI x), uu, uu] [] σ K := by
  refine e_Mod_hasMember_0 A _ _ ?_
  by_cases h : k < R.length
  · rw [if_pos h]
    exact hasMember_loop (b0 := false) hz ho hb h hx (fun b q => hk b (q.trans ⟨fun z => ⟨h, z⟩, fun z => z.2⟩)) _ 0 false (Nat.zero_add _) ⟨fun q => absurd q (by decide), fun ⟨j, j1, _⟩ => absurd j1 (Nat.not_lt_zero _)⟩
  · rw [if_neg h]
    refine e_Mod_hasMember_5 A _ _ _ _ ?_
    rw [if_pos (by decide)]
    exact ⟨Or.inl rfl, hk false ⟨fun q => absurd q (by decide), fun q => absurd q.1 h⟩⟩
/-- the rows seen -/
def SX (σ : PH) (A : Nat) (X : Nat → Bool) : Prop := ∀ j, j < 12 → eI σ (A + 41) j = nI (X j).toNat
def seP (A a _j : Nat) : Prop := a = A + 41
theorem MO.mf {σ' : PH} {F : Nat → Prop} {P : Nat → Nat → Prop} (h : MO σ A R) (hf : MF F P A σ σ') (hF : ¬ F 712) (hP : ∀ k j, 8 ≤ k → k ≤ 13 → ¬ P (A + k) j) : MO σ' A R := h.ag (hf.gI hF) (fun k j k1 k2 => hf.eI (hP k j k1 k2))
theorem SX.set {X : Nat → Bool} {i : Nat} (h : SX σ A X) : SX (uI σ (A + 41) i (nI 1)) A (fun j => if j = i then true else X j) := by
  intro j hj
  show eI (uI σ (A + 41) i (nI 1)) (A + 41) j = nI (if j = i then true else X j).toNat
  by_cases hji : j = i
  · rw [if_pos hji, hji]; simp only [bs_pI, cc_pI, cs_pI, sh_pI, gR_pI, eI_pI, eR_pI, eL_pI, bs_pR, cc_pR, cs_pR, sh_pR, gI_pR, eI_pR, eR_pR, eL_pR, bs_uI, cc_uI, cs_uI, sh_uI, gI_uI, gR_uI, eR_uI, eL_uI, bs_uR, cc_uR, cs_uR, sh_uR, gI_uR, gR_uR, eI_uR, eL_uR, bs_uL, cc_uL, cs_uL, sh_uL, gI_uL, gR_uL, eI_uL, eR_uL, gI_s, gI_d, gR_s, gR_d, eI_s, eI_d, eI_e, eR_s, eR_d, eR_e, eL_s, eL_d, bs_bump, cc_bump, cs_bump, sh_bump, gI_bump, gR_bump, eI_bump, eR_bump, eL_bump]; rfl
  · rw [if_neg hji]; simp (disch := omega) only [bs_pI, cc_pI, cs_pI, sh_pI, gR_pI, eI_pI, eR_pI, eL_pI, bs_pR, cc_pR, cs_pR, sh_pR, gI_pR, eI_pR, eR_pR, eL_pR, bs_uI, cc_uI, cs_uI, sh_uI, gI_uI, gR_uI, eR_uI, eL_uI, bs_uR, cc_uR, cs_uR, sh_uR, gI_uR, gR_uR, eI_uR, eL_uR, bs_uL, cc_uL, cs_uL, sh_uL, gI_uL, gR_uL, eI_uL, eR_uL, gI_s, gI_d, gR_s, gR_d, eI_s, eI_d, eI_e, eR_s, eR_d, eR_e, eL_s, eL_d, bs_bump, cc_bump, cs_bump, sh_bump, gI_bump, gR_bump, eI_bump, eR_bump, eL_bump]; exact h j hj
theorem leads_in {f to t k : Nat} {σ0 : PH} {X0 : Nat → Bool} (hu : Uq R) (hb : Rb R) (hR : R.length ≤ 12) (hf : bj R f < R.length) (hto : to < 456976) (hkl : k < R.length) (ht : t < 12) (hk : ∀ σ' X b, MZ σ' A → MO σ' A R → SX σ' A X → TI R (Sd R [f]) (fun x => x = to) False (Lds R f to) t (k + 1) 0 X b → MF noF (seP A) A σ0 σ' → PW (d + 1) M_Mod_leads 56 [.ref A, uu, .int (nI to), uu, .int (nI b.toNat), .int (nI t), .int (nI (k + 1)), uu, uu] [] σ' K) : ∀ (n m : Nat) (σ : PH) (X : Nat → Bool) (b : Bool), m + n = (R.getD k r0).2.2.2.length → MZ σ A → MO σ A R → SX σ A X → TI R (Sd R [f]) (fun x => x = to) False (Lds R f to) t k m X b → MF noF (seP A) A σ0 σ → PW (d + 1) M_Mod_leads 68 [.ref A, uu, .int (nI to), uu, .int (nI b.toNat), .int (nI t), .int (nI k), .int (nI m), uu] [] σ K := by
  have hG : ∀ i x, i < R.length → Rc R (Sd R [f]) 11 i → x ∈ (R.getD i r0).2.2.2 → x = to → Lds R f to := fun i x h1 h2 h3 h4 => ⟨i, h1, rc_mo (by omega) h2, h4 ▸ h3⟩
  intro n
  induction n with
  | zero =>
    intro m σ X b hm hz ho hs hT hf0
    obtain ⟨o1, o2, o3⟩ := ho
    obtain ⟨p1, p2, p3, p4, p5, p6⟩ := o3 k hkl
    have nx : PW (d + 1) M_Mod_leads 149 [.ref A, uu, .int (nI to), uu, .int (nI b.toNat), .int (nI t), .int (nI k), uu, uu] [] σ K := by
      refine e_Mod_leads_149 A _ _ _ _ ?_
      rw [nI_1]
      exact hk σ X b hz ⟨o1, o2, o3⟩ hs (hT.row hkl (Or.inr (by omega))) hf0
    refine e_Mod_leads_68 A _ _ _ _ _ ⟨hz.1, A + 41, z_758 hz, 12, s_758 hz, in_n (by omega) (by decide), ?_⟩
    rw [ix_n (by omega), hs k (by omega)]
    by_cases hX : nI (X k).toNat = 0
    · rw [if_pos hX]; exact nx
    · rw [if_neg hX]
      refine ⟨A + 12, z_717 hz, 12, s_717 hz, in_n (by omega) (by decide), ?_⟩
      rw [p4, if_pos ((nI_le_iff (by omega) (by omega)).mpr (by omega))]
      exact nx
  | succ n ih =>
    intro m σ X b hm hz ho hs hT hf0
    have ho0 := ho
    obtain ⟨o1, o2, o3⟩ := ho
    obtain ⟨p1, p2, p3, p4, p5, p6⟩ := o3 k hkl
    refine e_Mod_leads_68 A _ _ _ _ _ ⟨hz.1, A + 41, z_758 hz, 12, s_758 hz, in_n (by omega) (by decide), ?_⟩
    rw [ix_n (by omega), hs k (by omega)]
    cases hX : X k with
    | false =>
      rw [if_pos (by decide)]
      refine e_Mod_leads_149 A _ _ _ _ ?_
      rw [nI_1]
      exact hk σ X b hz ho0 hs (hT.row hkl (Or.inl hX)) hf0
    | true =>
      rw [if_neg (by decide)]
      refine ⟨A + 12, z_717 hz, 12, s_717 hz, in_n (by omega) (by decide), ?_⟩
      rw [p4, if_neg (fun q => by have := (nI_le_iff (by omega) (by omega)).mp q; omega)]
      have hlt := (hb k hkl).2.2.2.2 _ (getD_mem (show m < (R.getD k r0).2.2.2.length by omega))
      have e718 : ((4 : Int32) * nI k + nI m) = nI (4 * k + m) := by simp only [l_0, l_1, l_2, l_3, l_4, l_5, l_6, l_7, l_8, l_9, l_10, l_11, l_12, l_13, l_14, l_15, l_16, l_17, l_18, l_19, l_20, l_21, l_22, l_23, l_24, l_25, l_26, l_27, l_28, l_29, l_30, l_31, l_32, l_33, l_34, l_35, l_36, l_37, l_38, l_39, l_40, l_41, l_42, l_43, l_44, l_45, l_46, l_47, l_48, l_49, l_50, l_51, l_52, l_53, l_54, l_55, l_56, l_57, l_58, l_59, l_60, l_61, l_62, l_63, l_64, l_65, l_66, l_67, l_68, l_69, l_70, l_71, l_72, l_73, l_74, l_75, l_76, l_77, l_78, l_79, l_80, l_81, l_82, l_83, l_84, l_85, l_86, l_87, l_88, l_89, l_90, l_91, l_92, l_93, l_94, l_95, l_96, l_97, l_98, l_99, l_100, l_101, l_102, l_103, l_104, l_105, l_106, l_107, l_108, l_109, l_110, l_111, l_112, l_113, l_114, l_115, l_116, l_117, l_118, l_119, l_120, l_121, l_122, l_123, l_124, l_125, l_126, l_127, l_128, l_129, l_130, l_256, l_512, l_676, l_704, l_999, l_1000, l_4096, l_17576, l_32768, l_65535, l_456975, l_456976, l_m1, l_m2, mul_n, add_n]
      rw [e718]
      refine ⟨A + 13, z_718 hz, 48, s_718 hz, in_n (by omega) (by decide), ?_⟩
      rw [ix_n (by omega), p6 m (by omega)]
      have go : ∀ b' : Bool, (b' = true ↔ b = true ∨ (R.getD k r0).2.2.2.getD m 0 = to) → PW (d + 1) M_Mod_leads 120 [.ref A, uu, .int (nI to), uu, uu, .int (nI t), .int (nI k), .int (nI m), .int (nI ((R.getD k r0).2.2.2.getD m 0))] [.int (nI b'.toNat)] σ K := by
        intro b' hb'
        refine e_Mod_leads_120 A _ _ _ _ _ _ ⟨hz.1, c_routeAt hz ho0 hu hb hlt ?_⟩
        simp only [kI_i]
        by_cases hr : rix R ((R.getD k r0).2.2.2.getD m 0) < R.length
        · have hbj : bj R ((R.getD k r0).2.2.2.getD m 0) = rix R ((R.getD k r0).2.2.2.getD m 0) := by unfold bj; rw [if_pos hr]
          rw [if_pos hr, if_neg (nI_lt0 (by omega))]
          refine ⟨hz.1, A + 41, z_758 hz, c_routeAt hz ho0 hu hb hlt ?_⟩
          simp only [kI_i]
          rw [if_pos hr]
          refine ⟨12, s_758 hz, in_n (by omega) (by decide), ?_⟩
          rw [ix_n (by omega)]
          have f1 : MF noF (seP A) A σ (uI σ (A + 41) (rix R ((R.getD k r0).2.2.2.getD m 0)) (nI 1)) := MF.uI rfl
          intro σ3 e3
          have e3' : σ3 = uI σ (A + 41) (rix R ((R.getD k r0).2.2.2.getD m 0)) (nI 1) := e3
          subst e3'
          refine e_Mod_leads_143 A _ _ _ _ _ ?_
          rw [nI_1]
          refine ih (m + 1) _ (fun j => if j = rix R ((R.getD k r0).2.2.2.getD m 0) then true else X j) b' (by omega) (f1.z hz) (ho0.mf f1 id (fun k j k1 k2 q => by unfold seP at q; omega)) hs.set (hT.step hR (sd_row hf) hG hX (by omega) (fun j => ?_) hb') (hf0.tr f1)
          by_cases hj : j = rix R ((R.getD k r0).2.2.2.getD m 0)
          · rw [if_pos hj]; exact ⟨fun _ => Or.inr ⟨by rw [hbj]; exact hj, by omega⟩, fun _ => rfl⟩
          · rw [if_neg hj]; exact ⟨fun q => Or.inl q, fun q => by rcases q with q | q; exact q; rw [hbj] at q; exact absurd q.1 hj⟩
        · have hbj : bj R ((R.getD k r0).2.2.2.getD m 0) = 12 := by unfold bj; rw [if_neg hr]
          rw [if_neg hr, if_pos (by decide)]
          refine e_Mod_leads_143 A _ _ _ _ _ ?_
          rw [nI_1]
          refine ih (m + 1) σ X b' (by omega) hz ho0 hs (hT.step hR (sd_row hf) hG hX (by omega) (fun j => ?_) hb') hf0
          rw [hbj]
          exact ⟨fun q => Or.inl q, fun q => by rcases q with q | q; exact q; omega⟩
      cases b with
      | true => rw [if_neg (by decide)]; exact e_Mod_leads_115 A _ _ _ _ _ (go true ⟨fun _ => Or.inl rfl, fun _ => rfl⟩)
      | false =>
        rw [if_pos (by decide)]
        by_cases he : (R.getD k r0).2.2.2.getD m 0 = to
        · rw [if_pos (by rw [he])]; exact e_Mod_leads_115 A _ _ _ _ _ (go true ⟨fun _ => Or.inr he, fun _ => rfl⟩)
        · rw [if_neg (fun q => he ((nI_eq_iff (by omega) (by omega)).mp q))]
          exact go false ⟨fun q => absurd q (by decide), fun q => by rcases q with q | q; exact absurd q (by decide); exact absurd q he⟩
theorem leads_rows {f to t : Nat} {σ0 : PH} (hu : Uq R) (hb : Rb R) (hR : R.length ≤ 12) (hf : bj R f < R.length) (hto : to < 456976) (ht : t < 12) (hk : ∀ σ' X b, MZ σ' A → MO σ' A R → SX σ' A X → TI R (Sd R [f]) (fun x => x = to) False (Lds R f to) (t + 1) 0 0 X b → MF noF (seP A) A σ0 σ' → PW (d + 1) M_Mod_leads 46 [.ref A, uu, .int (nI to), uu, .int (nI b.toNat), .int (nI (t + 1)), uu, uu, uu] [] σ' K) : ∀ (n k : Nat) (σ : PH) (X : Nat → Bool) (b : Bool), k + n = R.length → MZ σ A → MO σ A R → SX σ A X → TI R (Sd R [f]) (fun x => x = to) False (Lds R f to) t k 0 X b → MF noF (seP A) A σ0 σ → PW (d + 1) M_Mod_leads 56 [.ref A, uu, .int (nI to), uu, .int (nI b.toNat), .int (nI t), .int (nI k), uu, uu] [] σ K := by
  intro n
  induction n with
  | zero =>
    intro k σ X b hm hz ho hs hT hf0
    refine e_Mod_leads_56 A _ _ _ _ ⟨hz.1, ?_⟩
    rw [ho.1, if_pos ((nI_le_iff (by omega) (by omega)).mpr (by omega)), nI_1]
    rw [show k = R.length by omega] at hT
    exact hk σ X b hz ho hs hT.turn hf0
  | succ n ih =>
    intro k σ X b hm hz ho hs hT hf0
    refine e_Mod_leads_56 A _ _ _ _ ⟨hz.1, ?_⟩
    rw [ho.1, if_neg (fun q => by have := (nI_le_iff (by omega) (by omega)).mp q; omega)]
    exact leads_in (σ0 := σ0) (X0 := X) hu hb hR hf hto (by omega) ht (fun σ' X' b' z1 o1 s1 t1 f1 => ih (k + 1) σ' X' b' (by omega) z1 o1 s1 t1 f1) _ 0 σ X b (Nat.zero_add _) hz ho hs hT hf0
theorem leads_turns {f to : Nat} {σ0 : PH} (hu : Uq R) (hb : Rb R) (hR : R.length ≤ 12) (hf : bj R f < R.length) (hto : to < 456976) (hk : ∀ σ' (b : Bool), (b = true ↔ Lds R f to) → MF noF (seP A) A σ0 σ' → K (.inl (some (.int (nI b.toNat)))) σ') : ∀ (n t : Nat) (σ : PH) (X : Nat → Bool) (b : Bool), t + n = 12 → MZ σ A → MO σ A R → SX σ A X → TI R (Sd R [f]) (fun x => x = to) False (Lds R f to) t 0 0 X b → MF noF (seP A) A σ0 σ → PW (d + 1) M_Mod_leads 46 [.ref A, uu, .int (nI to), uu, .int (nI b.toNat), .int (nI t), uu, uu, uu] [] σ K := by
  intro n
  induction n with
  | zero =>
    intro t σ X b hm hz ho hs hT hf0
    refine e_Mod_leads_46 A _ _ _ ?_
    have ht : t = 12 := by omega
    subst ht
    rw [if_pos (by decide)]
    refine ⟨nI_bo, hk σ b (hT.fin hR (sd_row hf) (fun ⟨i, q1, q2, q3⟩ => Or.inr ⟨i, q1, rc_sat hR (sd_row hf) q1 q2, to, q3, rfl⟩)).2 hf0⟩
  | succ n ih =>
    intro t σ X b hm hz ho hs hT hf0
    refine e_Mod_leads_46 A _ _ _ ?_
    rw [if_neg (show ¬ (12 : Int32) ≤ nI t from fun q => by have := (nI_le_iff (a := 12) (by decide) (by omega)).mp q; omega)]
    exact leads_rows (σ0 := σ0) hu hb hR hf hto (by omega) (fun σ' X' b' z1 o1 s1 t1 f1 => ih (t + 1) σ' X' b' (by omega) z1 o1 s1 t1 f1) R.length 0 σ X b (by omega) hz ho hs hT hf0
theorem c_leads {f to : Nat} (hz : MZ σ A) (ho : MO σ A R) (hu : Uq R) (hb : Rb R) (hfl : f < 456976) (hto : to < 456976) (hk : ∀ σ' (b : Bool), (b = true ↔ Lds R f to) → MF noF (seP A) A σ σ' → K (.inl (some (.int (nI b.toNat)))) σ') : PW (d + 1) M_Mod_leads 0 [.ref A, .int (nI f), .int (nI to), uu, uu, uu, uu, uu, uu] [] σ K := by
  have hR := ho.2.1
  have loop : ∀ (n k : Nat) (σ1 : PH), k + n = 12 → MZ σ1 A → MO σ1 A R → (∀ j, j < k → eI σ1 (A + 41) j = nI 0) → MF noF (seP A) A σ σ1 → PW (d + 1) M_Mod_leads 2 [.ref A, .int (nI f), .int (nI to), .int (nI k), uu, uu, uu, uu, uu] [] σ1 K := by
    intro n
    induction n with
    | zero =>
      intro k σ1 hm hz ho hs hf0
      refine e_Mod_leads_2 A _ _ _ ?_
      have hk12 : k = 12 := by omega
      subst hk12
      rw [if_pos (by decide)]
      refine ⟨hz.1, c_routeAt hz ho hu hb hfl ?_⟩
      simp only [kI_i]
      by_cases hr : rix R f < R.length
      · have hbj : bj R f = rix R f := by unfold bj; rw [if_pos hr]
        rw [if_pos hr, if_pos (show (0 : Int32) ≤ nI (rix R f) from (nI_le_iff (a := 0) (by decide) (by omega)).mpr (by omega))]
        refine ⟨hz.1, A + 41, z_758 hz, 12, s_758 hz, in_n (by omega) (by decide), ?_⟩
        rw [ix_n (by omega)]
        have f1 : MF noF (seP A) A σ1 (uI σ1 (A + 41) (rix R f) (nI 1)) := MF.uI rfl
        intro σ3 e3
        have e3' : σ3 = uI σ1 (A + 41) (rix R f) (nI 1) := e3
        subst e3'
        have s0 : SX σ1 A (fun _ => false) := fun j hj => hs j hj
        exact leads_turns (σ0 := σ) hu hb hR (by omega) hto hk 12 0 _ _ false (by omega) (f1.z hz) (ho.mf f1 id (fun k j k1 k2 q => by unfold seP at q; omega)) s0.set (TI.start (by omega) (fun j => by by_cases hj : j = rix R f; rw [if_pos hj, hbj]; exact ⟨fun _ => hj, fun _ => rfl⟩; rw [if_neg hj, hbj]; exact ⟨fun q => absurd q (by decide), fun q => absurd q hj⟩) (fun q => absurd q (by decide)) (fun q => q.elim)) (hf0.tr f1)
      · have hbj : bj R f = 12 := by unfold bj; rw [if_neg hr]
        rw [if_neg hr, if_neg (by decide)]
        refine hk σ1 false ⟨fun q => absurd q (by decide), fun ⟨i, q1, q2, q3⟩ => ?_⟩ hf0
        have : ∀ n i, i < R.length → ¬ Rc R (Sd R [f]) n i := by
          intro n
          induction n with
          | zero =>
            rintro i q1 ⟨k, q2, q3⟩
            rw [List.mem_singleton.mp q2] at q3
            omega
          | succ n ih =>
            rintro i q1 (q | ⟨i', q2, q3, -⟩)
            · exact ih i q1 q
            · exact ih i' q3 q2
        exact absurd q2 (this 12 i q1)
    | succ n ih =>
      intro k σ1 hm hz ho hs hf0
      refine e_Mod_leads_2 A _ _ _ ?_
      rw [if_neg (show ¬ (12 : Int32) ≤ nI k from fun q => by have := (nI_le_iff (a := 12) (by decide) (by omega)).mp q; omega)]
      simp (disch := omega) only [bs_pI, cc_pI, cs_pI, sh_pI, gR_pI, eI_pI, eR_pI, eL_pI, bs_pR, cc_pR, cs_pR, sh_pR, gI_pR, eI_pR, eR_pR, eL_pR, bs_uI, cc_uI, cs_uI, sh_uI, gI_uI, gR_uI, eR_uI, eL_uI, bs_uR, cc_uR, cs_uR, sh_uR, gI_uR, gR_uR, eI_uR, eL_uR, bs_uL, cc_uL, cs_uL, sh_uL, gI_uL, gR_uL, eI_uL, eR_uL, gI_s, gI_d, gR_s, gR_d, eI_s, eI_d, eI_e, eR_s, eR_d, eR_e, eL_s, eL_d, bs_bump, cc_bump, cs_bump, sh_bump, gI_bump, gR_bump, eI_bump, eR_bump, eL_bump, l_0, l_1, l_2, l_3, l_4, l_5, l_6, l_7, l_8, l_9, l_10, l_11, l_12, l_13, l_14, l_15, l_16, l_17, l_18, l_19, l_20, l_21, l_22, l_23, l_24, l_25, l_26, l_27, l_28, l_29, l_30, l_31, l_32, l_33, l_34, l_35, l_36, l_37, l_38, l_39, l_40, l_41, l_42, l_43, l_44, l_45, l_46, l_47, l_48, l_49, l_50, l_51, l_52, l_53, l_54, l_55, l_56, l_57, l_58, l_59, l_60, l_61, l_62, l_63, l_64, l_65, l_66, l_67, l_68, l_69, l_70, l_71, l_72, l_73, l_74, l_75, l_76, l_77, l_78, l_79, l_80, l_81, l_82, l_83, l_84, l_85, l_86, l_87, l_88, l_89, l_90, l_91, l_92, l_93, l_94, l_95, l_96, l_97, l_98, l_99, l_100, l_101, l_102, l_103, l_104, l_105, l_106, l_107, l_108, l_109, l_110, l_111, l_112, l_113, l_114, l_115, l_116, l_117, l_118, l_119, l_120, l_121, l_122, l_123, l_124, l_125, l_126, l_127, l_128, l_129, l_130, l_256, l_512, l_676, l_704, l_999, l_1000, l_4096, l_17576, l_32768, l_65535, l_456975, l_456976, l_m1, l_m2, in_iff, eq_m1, m1_eq, m1_lt, m1_le, le_m1, lt_m1, eq_m2, m2_m1, m1_m2, add_m1, m1_add, sub_n, mul_n, add_n, bo_n0, bo_n1, ch_n, lt_n, le_n, eq_n, ix_n, i2c_n, rem_n, div_n, kI_i, kI_x, kV_v, kV_x, kR_r, kR_n, kR_x, kHI_i, kHI_0, kHI_1, kHV_v, kHV_0, kHV_1, va_s, va_n, exists_eq_left', exists_eq_left, forall_eq, forall_eq', and_true, true_and, and_self, Option.some.injEq, Prod.mk.injEq, if_tt, if_ff, reduceIte, reduceCtorEq, not_true_eq_false, not_false_eq_true, Nat.reduceAdd, Nat.reduceMul, Nat.reduceSub, Nat.reduceLT, Nat.reduceLeDiff, Nat.reduceEqDiff, false_implies, true_implies, implies_true, hz.1, z_758 hz, s_758 hz]
      refine ⟨by omega, ?_⟩
      have f1 : MF noF (seP A) A σ1 (uI σ1 (A + 41) k (nI 0)) := MF.uI rfl
      refine ih (k + 1) _ (by omega) (f1.z hz) (ho.mf f1 id (fun k j k1 k2 q => by unfold seP at q; omega)) (fun j hj => ?_) (hf0.tr f1)
      by_cases hjk : j = k
      · subst hjk; simp only [bs_pI, cc_pI, cs_pI, sh_pI, gR_pI, eI_pI, eR_pI, eL_pI, bs_pR, cc_pR, cs_pR, sh_pR, gI_pR, eI_pR, eR_pR, eL_pR, bs_uI, cc_uI, cs_uI, sh_uI, gI_uI, gR_uI, eR_uI, eL_uI, bs_uR, cc_uR, cs_uR, sh_uR, gI_uR, gR_uR, eI_uR, eL_uR, bs_uL, cc_uL, cs_uL, sh_uL, gI_uL, gR_uL, eI_uL, eR_uL, gI_s, gI_d, gR_s, gR_d, eI_s, eI_d, eI_e, eR_s, eR_d, eR_e, eL_s, eL_d, bs_bump, cc_bump, cs_bump, sh_bump, gI_bump, gR_bump, eI_bump, eR_bump, eL_bump]
      · simp (disch := omega) only [bs_pI, cc_pI, cs_pI, sh_pI, gR_pI, eI_pI, eR_pI, eL_pI, bs_pR, cc_pR, cs_pR, sh_pR, gI_pR, eI_pR, eR_pR, eL_pR, bs_uI, cc_uI, cs_uI, sh_uI, gI_uI, gR_uI, eR_uI, eL_uI, bs_uR, cc_uR, cs_uR, sh_uR, gI_uR, gR_uR, eI_uR, eL_uR, bs_uL, cc_uL, cs_uL, sh_uL, gI_uL, gR_uL, eI_uL, eR_uL, gI_s, gI_d, gR_s, gR_d, eI_s, eI_d, eI_e, eR_s, eR_d, eR_e, eL_s, eL_d, bs_bump, cc_bump, cs_bump, sh_bump, gI_bump, gR_bump, eI_bump, eR_bump, eL_bump]; exact hs j (by omega)
  exact e_Mod_leads_0 A _ _ (loop 12 0 σ (by omega) hz ho (fun j hj => absurd hj (Nat.not_lt_zero _)) MF.rf)
end Mod6
