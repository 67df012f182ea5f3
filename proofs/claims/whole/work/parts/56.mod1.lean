/-! ===== the reference: ranges, figures, gathering ===== -/
theorem dc_Mod_figure_1 : decode M_Mod_figure.2.1 1 = .ok (.tableswitch 92 10 20 #[59, 62, 65, 68, 71, 74, 77, 80, 83, 86, 89], 59) := by decide +kernel
section Mod1
variable {d : Nat} {σ : PH} {K : PO → PH → Prop} {A : Nat} {S : SP}
theorem c_isIn {x lo hi : Int32} (h1 : ¬ x < lo → x ≤ hi → K (.inl (some (.int (nI 1)))) σ) (h2 : (x < lo ∨ ¬ x ≤ hi) → K (.inl (some (.int (nI 0)))) σ) : PW d M_Mod_isIn 0 [.int x, .int lo, .int hi] [] σ K := by
  refine e_Mod_isIn_0 x lo hi ?_
  by_cases h3 : x < lo
  · rw [if_pos h3]; exact h2 (Or.inl h3)
  · rw [if_neg h3]
    by_cases h4 : hi < x
    · rw [if_pos h4]
      refine h2 (Or.inr (fun q => ?_))
      rw [Int32.lt_iff_toInt_lt] at h4
      rw [Int32.le_iff_toInt_le] at q
      omega
    · rw [if_neg h4]
      refine h1 h3 ?_
      rw [Int32.lt_iff_toInt_lt] at h4
      rw [Int32.le_iff_toInt_le]
      omega
theorem c_isChannel {x : Int32} (h1 : ∀ c, c < 8 → x = nI c → K (.inl (some (.int (nI 1)))) σ) (h2 : (x < 0 ∨ ¬ x ≤ 7) → K (.inl (some (.int (nI 0)))) σ) : PW (d + 1) M_Mod_isChannel 0 [.int x] [] σ K := by
  refine e_Mod_isChannel_0 x (c_isIn (fun q1 q2 => ?_) (fun q => ?_))
  · simp only [kI_i]
    obtain ⟨c, hc, rfl⟩ := chanN q1 q2
    exact ⟨Or.inr rfl, h1 c hc rfl⟩
  · simp only [kI_i]
    exact ⟨Or.inl rfl, h2 q⟩
theorem c_isCode {x : Int32} (h1 : ∀ c, c < 456976 → x = nI c → K (.inl (some (.int (nI 1)))) σ) (h2 : (x < 0 ∨ ¬ x ≤ 456975) → K (.inl (some (.int (nI 0)))) σ) : PW (d + 1) M_Mod_isCode 0 [.int x] [] σ K := by
  refine e_Mod_isCode_0 x (c_isIn (fun q1 q2 => ?_) (fun q => ?_))
  · simp only [kI_i]
    obtain ⟨c, hc, rfl⟩ := codeN q1 q2
    exact ⟨Or.inr rfl, h1 c hc rfl⟩
  · simp only [kI_i]
    exact ⟨Or.inl rfl, h2 q⟩
theorem c_refused {n : Nat} (hz : MZ σ A) (hn : n ≤ 2) (hk : K (.inl (some (.int (nI (decide (0 < n)).toNat)))) (pI σ 704 A (nI n))) : PW d M_Mod_refused 0 [.ref A, .int (nI n)] [] σ K := by
  refine e_Mod_refused_0 A _ ⟨hz.1, fun σ1 e1 => ?_⟩
  subst e1
  rcases (show n = 0 ∨ n = 1 ∨ n = 2 by omega) with q | q | q <;> subst q
  · rw [if_pos (by decide)]; exact hk
  · rw [if_neg (by decide)]; exact hk
  · rw [if_neg (by decide)]; exact hk
theorem c_figure {s : Nat} (hs : s ≤ 20) (hk : K (.inl (some (.int (nI (figL.getD s 0))))) σ) : PW d M_Mod_figure 0 [.int (nI s)] [] σ K := by
  refine e_Mod_figure_0 _ ?_
  rcases (show s < 10 ∨ s = 10 ∨ s = 11 ∨ s = 12 ∨ s = 13 ∨ s = 14 ∨ s = 15 ∨ s = 16 ∨ s = 17 ∨ s = 18 ∨ s = 19 ∨ s = 20 by omega) with q | q | q | q | q | q | q | q | q | q | q | q
  · refine pw_tableOut (tgt := 93) dc_Mod_figure_1 (by rw [toInt_n (by omega)]; omega) (by decide) (e_Mod_figure_93 _ ?_)
    have e : figL.getD s 0 = 48 + s := by
      have : ∀ s, s < 10 → figL.getD s 0 = 48 + s := by decide
      exact this s q
    rw [e] at hk
    simp (disch := omega) only [l_0, l_1, l_2, l_3, l_4, l_5, l_6, l_7, l_8, l_9, l_10, l_11, l_12, l_13, l_14, l_15, l_16, l_17, l_18, l_19, l_20, l_21, l_22, l_23, l_24, l_25, l_26, l_27, l_28, l_29, l_30, l_31, l_32, l_33, l_34, l_35, l_36, l_37, l_38, l_39, l_40, l_41, l_42, l_43, l_44, l_45, l_46, l_47, l_48, l_49, l_50, l_51, l_52, l_53, l_54, l_55, l_56, l_57, l_58, l_59, l_60, l_61, l_62, l_63, l_64, l_65, l_66, l_67, l_68, l_69, l_70, l_71, l_72, l_73, l_74, l_75, l_76, l_77, l_78, l_79, l_80, l_81, l_82, l_83, l_84, l_85, l_86, l_87, l_88, l_89, l_90, l_91, l_92, l_93, l_94, l_95, l_96, l_97, l_98, l_99, l_100, l_101, l_102, l_103, l_104, l_105, l_106, l_107, l_108, l_109, l_110, l_111, l_112, l_113, l_114, l_115, l_116, l_117, l_118, l_119, l_120, l_121, l_122, l_123, l_124, l_125, l_126, l_127, l_128, l_129, l_130, l_256, l_512, l_676, l_704, l_999, l_1000, l_4096, l_17576, l_32768, l_65535, l_456975, l_456976, l_m1, l_m2, in_iff, eq_m1, m1_eq, m1_lt, m1_le, le_m1, lt_m1, eq_m2, m2_m1, m1_m2, add_m1, m1_add, sub_n, mul_n, add_n, bo_n0, bo_n1, ch_n, lt_n, le_n, eq_n, ix_n, i2c_n, rem_n, div_n, true_and]
    exact hk
  · subst q
    exact pw_tableIn (off := 59) (tgt := 60) dc_Mod_figure_1 (by decide) (by decide) rfl (by decide) (PW.drop (ls' := [uu]) ⟨Or.inr rfl, trivial⟩ (e_Mod_figure_60 ⟨ch_nI (n := 46) (by decide), hk⟩))
  · subst q
    exact pw_tableIn (off := 62) (tgt := 63) dc_Mod_figure_1 (by decide) (by decide) rfl (by decide) (PW.drop (ls' := [uu]) ⟨Or.inr rfl, trivial⟩ (e_Mod_figure_63 ⟨ch_nI (n := 44) (by decide), hk⟩))
  · subst q
    exact pw_tableIn (off := 65) (tgt := 66) dc_Mod_figure_1 (by decide) (by decide) rfl (by decide) (PW.drop (ls' := [uu]) ⟨Or.inr rfl, trivial⟩ (e_Mod_figure_66 ⟨ch_nI (n := 45) (by decide), hk⟩))
  · subst q
    exact pw_tableIn (off := 68) (tgt := 69) dc_Mod_figure_1 (by decide) (by decide) rfl (by decide) (PW.drop (ls' := [uu]) ⟨Or.inr rfl, trivial⟩ (e_Mod_figure_69 ⟨ch_nI (n := 47) (by decide), hk⟩))
  · subst q
    exact pw_tableIn (off := 71) (tgt := 72) dc_Mod_figure_1 (by decide) (by decide) rfl (by decide) (PW.drop (ls' := [uu]) ⟨Or.inr rfl, trivial⟩ (e_Mod_figure_72 ⟨ch_nI (n := 40) (by decide), hk⟩))
  · subst q
    exact pw_tableIn (off := 74) (tgt := 75) dc_Mod_figure_1 (by decide) (by decide) rfl (by decide) (PW.drop (ls' := [uu]) ⟨Or.inr rfl, trivial⟩ (e_Mod_figure_75 ⟨ch_nI (n := 41) (by decide), hk⟩))
  · subst q
    exact pw_tableIn (off := 77) (tgt := 78) dc_Mod_figure_1 (by decide) (by decide) rfl (by decide) (PW.drop (ls' := [uu]) ⟨Or.inr rfl, trivial⟩ (e_Mod_figure_78 ⟨ch_nI (n := 63) (by decide), hk⟩))
  · subst q
    exact pw_tableIn (off := 80) (tgt := 81) dc_Mod_figure_1 (by decide) (by decide) rfl (by decide) (PW.drop (ls' := [uu]) ⟨Or.inr rfl, trivial⟩ (e_Mod_figure_81 ⟨ch_nI (n := 58) (by decide), hk⟩))
  · subst q
    exact pw_tableIn (off := 83) (tgt := 84) dc_Mod_figure_1 (by decide) (by decide) rfl (by decide) (PW.drop (ls' := [uu]) ⟨Or.inr rfl, trivial⟩ (e_Mod_figure_84 ⟨ch_nI (n := 39) (by decide), hk⟩))
  · subst q
    exact pw_tableIn (off := 86) (tgt := 87) dc_Mod_figure_1 (by decide) (by decide) rfl (by decide) (PW.drop (ls' := [uu]) ⟨Or.inr rfl, trivial⟩ (e_Mod_figure_87 ⟨ch_nI (n := 43) (by decide), hk⟩))
  · subst q
    exact pw_tableIn (off := 89) (tgt := 90) dc_Mod_figure_1 (by decide) (by decide) rfl (by decide) (PW.drop (ls' := [uu]) ⟨Or.inr rfl, trivial⟩ (e_Mod_figure_90 ⟨ch_nI (n := 61) (by decide), hk⟩))
theorem fig_inj : ∀ s, s < 21 → plc figL (figL.getD s 0) = s := by decide
theorem figureOf_loop {c : Nat} (hc : c < 65536) (hk : K (.inl (some (.int (if plc figL c < 21 then nI (plc figL c) else m1)))) σ) : ∀ (m s : Nat), s + m = 21 → PW (d + 1) M_Mod_figureOf 4 [.int (nI c), .int (if plc figL c < s then nI (plc figL c) else m1), .int (nI s)] [] σ K := by
  intro m
  induction m with
  | zero =>
    intro s hs
    refine e_Mod_figureOf_4 _ _ _ ?_
    rw [if_pos (show (20 : Int32) < nI s from (nI_lt_iff (a := 20) (by decide) (by omega)).mpr (by omega)), show s = 21 by omega]
    exact hk
  | succ m ih =>
    intro s hs
    refine e_Mod_figureOf_4 _ _ _ ?_
    rw [if_neg (show ¬ (20 : Int32) < nI s from fun q => by have := (nI_lt_iff (a := 20) (by decide) (by omega)).mp q; omega)]
    refine c_figure (by omega) ?_
    simp only [kI_i]
    have hl := figL_lt s (by omega)
    obtain ⟨p1, p2, p3⟩ := plc_spec c figL
    have hn := ih (s + 1) (by omega)
    by_cases he : figL.getD s 0 = c
    · have hp : plc figL c = s := by rw [← he]; exact fig_inj s (by omega)
      rw [if_pos (by rw [he])]
      refine e_Mod_figureOf_23 _ _ _ ?_
      rw [if_pos (by omega), hp] at hn
      rw [nI_1]
      exact hn
    · rw [if_neg (fun q => he ((nI_eq_iff (by omega) (by omega)).mp q))]
      refine e_Mod_figureOf_23 _ _ _ ?_
      have hp : plc figL c ≠ s := fun q => he (by rw [← q]; exact p3 (by rw [q]; show s < 21; omega))
      rw [nI_1]
      by_cases h2 : plc figL c < s
      · rw [if_pos h2]
        rw [if_pos (by omega)] at hn
        exact hn
      · rw [if_neg h2]
        rw [if_neg (by omega)] at hn
        exact hn
theorem c_figureOf {c : Nat} (hc : c < 65536) (hk : K (.inl (some (.int (if plc figL c < 21 then nI (plc figL c) else m1)))) σ) : PW (d + 1) M_Mod_figureOf 0 [.int (nI c), uu, uu] [] σ K := by
  refine e_Mod_figureOf_0 _ ?_
  have := figureOf_loop (d := d) hc hk 21 0 (by omega)
  rw [if_neg (by omega)] at this
  exact this
theorem c_modLetter {c : Nat} (hc : c < 65536) (hk : K (.inl (some (.int (nI (isL c).toNat)))) σ) : PW d M_Mod_isLetter 0 [.int (nI c)] [] σ K := by
  refine e_Mod_isLetter_0 _ ?_
  unfold isL at hk
  simp (disch := omega) only [l_0, l_1, l_2, l_3, l_4, l_5, l_6, l_7, l_8, l_9, l_10, l_11, l_12, l_13, l_14, l_15, l_16, l_17, l_18, l_19, l_20, l_21, l_22, l_23, l_24, l_25, l_26, l_27, l_28, l_29, l_30, l_31, l_32, l_33, l_34, l_35, l_36, l_37, l_38, l_39, l_40, l_41, l_42, l_43, l_44, l_45, l_46, l_47, l_48, l_49, l_50, l_51, l_52, l_53, l_54, l_55, l_56, l_57, l_58, l_59, l_60, l_61, l_62, l_63, l_64, l_65, l_66, l_67, l_68, l_69, l_70, l_71, l_72, l_73, l_74, l_75, l_76, l_77, l_78, l_79, l_80, l_81, l_82, l_83, l_84, l_85, l_86, l_87, l_88, l_89, l_90, l_91, l_92, l_93, l_94, l_95, l_96, l_97, l_98, l_99, l_100, l_101, l_102, l_103, l_104, l_105, l_106, l_107, l_108, l_109, l_110, l_111, l_112, l_113, l_114, l_115, l_116, l_117, l_118, l_119, l_120, l_121, l_122, l_123, l_124, l_125, l_126, l_127, l_128, l_129, l_130, l_256, l_512, l_676, l_704, l_999, l_1000, l_4096, l_17576, l_32768, l_65535, l_456975, l_456976, l_m1, l_m2, in_iff, eq_m1, m1_eq, m1_lt, m1_le, le_m1, lt_m1, eq_m2, m2_m1, m1_m2, add_m1, m1_add, sub_n, mul_n, add_n, bo_n0, bo_n1, ch_n, lt_n, le_n, eq_n, ix_n, i2c_n, rem_n, div_n, kI_i, kI_x, kV_v, kV_x, kR_r, kR_n, kR_x, kHI_i, kHI_0, kHI_1, kHV_v, kHV_0, kHV_1, va_s, va_n, exists_eq_left', exists_eq_left, forall_eq, forall_eq', and_true, true_and, and_self, Option.some.injEq, Prod.mk.injEq, if_tt, if_ff, reduceIte, reduceCtorEq, not_true_eq_false, not_false_eq_true, Nat.reduceAdd, Nat.reduceMul, Nat.reduceSub, Nat.reduceLT, Nat.reduceLeDiff, Nat.reduceEqDiff, false_implies, true_implies, implies_true]
  by_cases h1 : c < 65
  · rw [if_pos h1]; rw [decide_eq_false (by omega)] at hk; exact hk
  · rw [if_neg h1]
    by_cases h2 : 90 < c
    · rw [if_pos h2]; rw [decide_eq_false (by omega)] at hk; exact hk
    · rw [if_neg h2]; rw [decide_eq_true (by omega)] at hk; exact hk
theorem c_modDigit {c : Nat} (hc : c < 65536) (hk : K (.inl (some (.int (nI (isD c).toNat)))) σ) : PW d M_Mod_isDigit 0 [.int (nI c)] [] σ K := by
  refine e_Mod_isDigit_0 _ ?_
  unfold isD at hk
  simp (disch := omega) only [l_0, l_1, l_2, l_3, l_4, l_5, l_6, l_7, l_8, l_9, l_10, l_11, l_12, l_13, l_14, l_15, l_16, l_17, l_18, l_19, l_20, l_21, l_22, l_23, l_24, l_25, l_26, l_27, l_28, l_29, l_30, l_31, l_32, l_33, l_34, l_35, l_36, l_37, l_38, l_39, l_40, l_41, l_42, l_43, l_44, l_45, l_46, l_47, l_48, l_49, l_50, l_51, l_52, l_53, l_54, l_55, l_56, l_57, l_58, l_59, l_60, l_61, l_62, l_63, l_64, l_65, l_66, l_67, l_68, l_69, l_70, l_71, l_72, l_73, l_74, l_75, l_76, l_77, l_78, l_79, l_80, l_81, l_82, l_83, l_84, l_85, l_86, l_87, l_88, l_89, l_90, l_91, l_92, l_93, l_94, l_95, l_96, l_97, l_98, l_99, l_100, l_101, l_102, l_103, l_104, l_105, l_106, l_107, l_108, l_109, l_110, l_111, l_112, l_113, l_114, l_115, l_116, l_117, l_118, l_119, l_120, l_121, l_122, l_123, l_124, l_125, l_126, l_127, l_128, l_129, l_130, l_256, l_512, l_676, l_704, l_999, l_1000, l_4096, l_17576, l_32768, l_65535, l_456975, l_456976, l_m1, l_m2, in_iff, eq_m1, m1_eq, m1_lt, m1_le, le_m1, lt_m1, eq_m2, m2_m1, m1_m2, add_m1, m1_add, sub_n, mul_n, add_n, bo_n0, bo_n1, ch_n, lt_n, le_n, eq_n, ix_n, i2c_n, rem_n, div_n, kI_i, kI_x, kV_v, kV_x, kR_r, kR_n, kR_x, kHI_i, kHI_0, kHI_1, kHV_v, kHV_0, kHV_1, va_s, va_n, exists_eq_left', exists_eq_left, forall_eq, forall_eq', and_true, true_and, and_self, Option.some.injEq, Prod.mk.injEq, if_tt, if_ff, reduceIte, reduceCtorEq, not_true_eq_false, not_false_eq_true, Nat.reduceAdd, Nat.reduceMul, Nat.reduceSub, Nat.reduceLT, Nat.reduceLeDiff, Nat.reduceEqDiff, false_implies, true_implies, implies_true]
  by_cases h1 : c < 48
  · rw [if_pos h1]; rw [decide_eq_false (by omega)] at hk; exact hk
  · rw [if_neg h1]
    by_cases h2 : 57 < c
    · rw [if_pos h2]; rw [decide_eq_false (by omega)] at hk; exact hk
    · rw [if_neg h2]; rw [decide_eq_true (by omega)] at hk; exact hk
theorem c_isCharacter {c : Nat} (hc : c < 65536) (hk : K (.inl (some (.int (nI (decide (sg c < 32)).toNat)))) σ) : PW (d + 2) M_Mod_isCharacter 0 [.int (nI c)] [] σ K := by
  refine e_Mod_isCharacter_0 _ (c_modLetter hc ?_)
  simp (disch := omega) only [kI_i, l_0, l_1, l_2, l_3, l_4, l_5, l_6, l_7, l_8, l_9, l_10, l_11, l_12, l_13, l_14, l_15, l_16, l_17, l_18, l_19, l_20, l_21, l_22, l_23, l_24, l_25, l_26, l_27, l_28, l_29, l_30, l_31, l_32, l_33, l_34, l_35, l_36, l_37, l_38, l_39, l_40, l_41, l_42, l_43, l_44, l_45, l_46, l_47, l_48, l_49, l_50, l_51, l_52, l_53, l_54, l_55, l_56, l_57, l_58, l_59, l_60, l_61, l_62, l_63, l_64, l_65, l_66, l_67, l_68, l_69, l_70, l_71, l_72, l_73, l_74, l_75, l_76, l_77, l_78, l_79, l_80, l_81, l_82, l_83, l_84, l_85, l_86, l_87, l_88, l_89, l_90, l_91, l_92, l_93, l_94, l_95, l_96, l_97, l_98, l_99, l_100, l_101, l_102, l_103, l_104, l_105, l_106, l_107, l_108, l_109, l_110, l_111, l_112, l_113, l_114, l_115, l_116, l_117, l_118, l_119, l_120, l_121, l_122, l_123, l_124, l_125, l_126, l_127, l_128, l_129, l_130, l_256, l_512, l_676, l_704, l_999, l_1000, l_4096, l_17576, l_32768, l_65535, l_456975, l_456976, l_m1, l_m2, eq_n]
  unfold sg at hk
  cases hl : isL c with
  | true =>
    rw [if_neg (by decide)]
    have := isL_iff.mp hl
    rw [if_neg (by omega), if_neg (by omega), if_pos hl, decide_eq_true (by omega)] at hk
    exact hk
  | false =>
    rw [if_pos (by decide)]
    by_cases h1 : c = 32
    · rw [if_pos h1]; rw [if_pos h1] at hk; exact hk
    · rw [if_neg h1]; rw [if_neg h1] at hk
      by_cases h2 : c = 10
      · rw [if_pos h2]; rw [if_pos h2] at hk; exact hk
      · rw [if_neg h2]; rw [if_neg h2, if_neg (by rw [hl]; decide)] at hk
        refine c_figureOf hc ?_
        simp only [kI_i]
        by_cases h3 : plc figL c < 21
        · rw [if_pos h3, if_neg (show ¬ nI (plc figL c) < nI 0 from nI_lt0 (by omega))]
          rw [if_pos h3, decide_eq_true (by omega)] at hk
          exact hk
        · rw [if_neg h3, if_pos (by decide)]
          rw [if_neg h3] at hk
          exact hk
theorem c_gather {c n x : Nat} (hz : MZ σ A) (hc : c < 8) (hn : n < 4000) (h2 : eI σ (A + 2) c = nI n) (hx : x < 65536) (hk : K (.inl none) (uI (uI σ (A + 3) (4096 * c + n) (nI x)) (A + 2) c (nI (n + 1)))) : PW d M_Mod_gather 0 [.ref A, .int (nI c), .int (nI x)] [] σ K := by
  refine e_Mod_gather_0 A _ _ ?_
  simp (disch := omega) only [bs_pI, cc_pI, cs_pI, sh_pI, gR_pI, eI_pI, eR_pI, eL_pI, bs_pR, cc_pR, cs_pR, sh_pR, gI_pR, eI_pR, eR_pR, eL_pR, bs_uI, cc_uI, cs_uI, sh_uI, gI_uI, gR_uI, eR_uI, eL_uI, bs_uR, cc_uR, cs_uR, sh_uR, gI_uR, gR_uR, eI_uR, eL_uR, bs_uL, cc_uL, cs_uL, sh_uL, gI_uL, gR_uL, eI_uL, eR_uL, gI_s, gI_d, gR_s, gR_d, eI_s, eI_d, eI_e, eR_s, eR_d, eR_e, eL_s, eL_d, bs_bump, cc_bump, cs_bump, sh_bump, gI_bump, gR_bump, eI_bump, eR_bump, eL_bump, l_0, l_1, l_2, l_3, l_4, l_5, l_6, l_7, l_8, l_9, l_10, l_11, l_12, l_13, l_14, l_15, l_16, l_17, l_18, l_19, l_20, l_21, l_22, l_23, l_24, l_25, l_26, l_27, l_28, l_29, l_30, l_31, l_32, l_33, l_34, l_35, l_36, l_37, l_38, l_39, l_40, l_41, l_42, l_43, l_44, l_45, l_46, l_47, l_48, l_49, l_50, l_51, l_52, l_53, l_54, l_55, l_56, l_57, l_58, l_59, l_60, l_61, l_62, l_63, l_64, l_65, l_66, l_67, l_68, l_69, l_70, l_71, l_72, l_73, l_74, l_75, l_76, l_77, l_78, l_79, l_80, l_81, l_82, l_83, l_84, l_85, l_86, l_87, l_88, l_89, l_90, l_91, l_92, l_93, l_94, l_95, l_96, l_97, l_98, l_99, l_100, l_101, l_102, l_103, l_104, l_105, l_106, l_107, l_108, l_109, l_110, l_111, l_112, l_113, l_114, l_115, l_116, l_117, l_118, l_119, l_120, l_121, l_122, l_123, l_124, l_125, l_126, l_127, l_128, l_129, l_130, l_256, l_512, l_676, l_704, l_999, l_1000, l_4096, l_17576, l_32768, l_65535, l_456975, l_456976, l_m1, l_m2, in_iff, eq_m1, m1_eq, m1_lt, m1_le, le_m1, lt_m1, eq_m2, m2_m1, m1_m2, add_m1, m1_add, sub_n, mul_n, add_n, bo_n0, bo_n1, ch_n, lt_n, le_n, eq_n, ix_n, i2c_n, rem_n, div_n, kI_i, kI_x, kV_v, kV_x, kR_r, kR_n, kR_x, kHI_i, kHI_0, kHI_1, kHV_v, kHV_0, kHV_1, va_s, va_n, exists_eq_left', exists_eq_left, forall_eq, forall_eq', and_true, true_and, and_self, Option.some.injEq, Prod.mk.injEq, if_tt, if_ff, reduceIte, reduceCtorEq, not_true_eq_false, not_false_eq_true, Nat.reduceAdd, Nat.reduceMul, Nat.reduceSub, Nat.reduceLT, Nat.reduceLeDiff, Nat.reduceEqDiff, false_implies, true_implies, implies_true, hz.1, z_706 hz, s_706 hz, z_707 hz, s_707 hz, h2]
  rw [if_neg (by omega)]
  exact ⟨by omega, by omega, by omega, by omega, by omega, hk⟩
theorem c_atEnd {c n b v : Nat} (hz : MZ σ A) (hc : c < 8) (hn : n < 4000) (hb : b ≤ n) (hb1 : 1 ≤ b) (h2 : eI σ (A + 2) c = nI n) (h3 : eI σ (A + 3) (4096 * c + (n - b)) = nI v) (hv : v < 128) (hk : K (.inl (some (.int (nI v)))) σ) : PW d M_Mod_atEnd 0 [.ref A, .int (nI c), .int (nI b)] [] σ K := by
  refine e_Mod_atEnd_0 A _ _ ?_
  simp (disch := omega) only [bs_pI, cc_pI, cs_pI, sh_pI, gR_pI, eI_pI, eR_pI, eL_pI, bs_pR, cc_pR, cs_pR, sh_pR, gI_pR, eI_pR, eR_pR, eL_pR, bs_uI, cc_uI, cs_uI, sh_uI, gI_uI, gR_uI, eR_uI, eL_uI, bs_uR, cc_uR, cs_uR, sh_uR, gI_uR, gR_uR, eI_uR, eL_uR, bs_uL, cc_uL, cs_uL, sh_uL, gI_uL, gR_uL, eI_uL, eR_uL, gI_s, gI_d, gR_s, gR_d, eI_s, eI_d, eI_e, eR_s, eR_d, eR_e, eL_s, eL_d, bs_bump, cc_bump, cs_bump, sh_bump, gI_bump, gR_bump, eI_bump, eR_bump, eL_bump, l_0, l_1, l_2, l_3, l_4, l_5, l_6, l_7, l_8, l_9, l_10, l_11, l_12, l_13, l_14, l_15, l_16, l_17, l_18, l_19, l_20, l_21, l_22, l_23, l_24, l_25, l_26, l_27, l_28, l_29, l_30, l_31, l_32, l_33, l_34, l_35, l_36, l_37, l_38, l_39, l_40, l_41, l_42, l_43, l_44, l_45, l_46, l_47, l_48, l_49, l_50, l_51, l_52, l_53, l_54, l_55, l_56, l_57, l_58, l_59, l_60, l_61, l_62, l_63, l_64, l_65, l_66, l_67, l_68, l_69, l_70, l_71, l_72, l_73, l_74, l_75, l_76, l_77, l_78, l_79, l_80, l_81, l_82, l_83, l_84, l_85, l_86, l_87, l_88, l_89, l_90, l_91, l_92, l_93, l_94, l_95, l_96, l_97, l_98, l_99, l_100, l_101, l_102, l_103, l_104, l_105, l_106, l_107, l_108, l_109, l_110, l_111, l_112, l_113, l_114, l_115, l_116, l_117, l_118, l_119, l_120, l_121, l_122, l_123, l_124, l_125, l_126, l_127, l_128, l_129, l_130, l_256, l_512, l_676, l_704, l_999, l_1000, l_4096, l_17576, l_32768, l_65535, l_456975, l_456976, l_m1, l_m2, in_iff, eq_m1, m1_eq, m1_lt, m1_le, le_m1, lt_m1, eq_m2, m2_m1, m1_m2, add_m1, m1_add, sub_n, mul_n, add_n, bo_n0, bo_n1, ch_n, lt_n, le_n, eq_n, ix_n, i2c_n, rem_n, div_n, kI_i, kI_x, kV_v, kV_x, kR_r, kR_n, kR_x, kHI_i, kHI_0, kHI_1, kHV_v, kHV_0, kHV_1, va_s, va_n, exists_eq_left', exists_eq_left, forall_eq, forall_eq', and_true, true_and, and_self, Option.some.injEq, Prod.mk.injEq, if_tt, if_ff, reduceIte, reduceCtorEq, not_true_eq_false, not_false_eq_true, Nat.reduceAdd, Nat.reduceMul, Nat.reduceSub, Nat.reduceLT, Nat.reduceLeDiff, Nat.reduceEqDiff, false_implies, true_implies, implies_true, hz.1, z_706 hz, s_706 hz, z_707 hz, s_707 hz, h2]
  rw [show 4096 * c + n - b = 4096 * c + (n - b) by omega, h3]
  exact ⟨by omega, by omega, ch_nI (by omega), hk⟩
end Mod1
