/-! ===== contracts of the text constant and of Signs ===== -/
def figL : List Nat := [48, 49, 50, 51, 52, 53, 54, 55, 56, 57, 46, 44, 45, 47, 40, 41, 63, 58, 39, 43, 61]
theorem figB_n : ∀ j, j < 21 → figB j = nI (figL.getD j 0) := by decide
theorem figL_lt : ∀ j, j < 21 → figL.getD j 0 < 128 ∧ figL.getD j 0 ≠ 0 ∧ figL.getD j 0 ≠ 10 ∧ figL.getD j 0 ≠ 32 ∧ (figL.getD j 0 < 65 ∨ 90 < figL.getD j 0) := by decide
theorem fig8 : ∀ c, c < 256 → ∀ j, j < 21 → ((nI (figL.getD j 0) = (nI c).toInt8.toInt32) ↔ figL.getD j 0 = c) := by decide +kernel
/-- the character of a sign, 0 for none -/
def chr (s : Nat) (fg : Bool) : Nat := if s = 26 then 32 else if s = 27 then 10 else if fg = true then (if s < 21 then figL.getD s 0 else 0) else if s < 26 then 65 + s else 0
theorem chr_lt (s : Nat) (fg : Bool) : chr s fg < 128 := by
  unfold chr
  split
  · decide
  · split
    · decide
    · split
      · split
        · rename_i h; exact (figL_lt s h).1
        · decide
      · split
        · omega
        · decide
def isL (c : Nat) : Bool := decide (65 ≤ c ∧ c ≤ 90)
def isD (c : Nat) : Bool := decide (48 ≤ c ∧ c ≤ 57)
def isB (c : Nat) : Bool := decide (c = 32 ∨ c = 10)
/-- a character's sign, 32 for none -/
def sg (c : Nat) : Nat := if c = 32 then 26 else if c = 10 then 27 else if isL c = true then c - 65 else if plc figL c < 21 then plc figL c else 32
def sgI (c : Nat) : Int32 := if sg c < 32 then nI (sg c) else m1
section CSigns
variable {d : Nat} {σ : PH} {K : PO → PH → Prop}
theorem c_Pre_checkIndex {i n : Nat} {o : Option Nat} (hi : i < n) (hn : n < 1000) (hk : K (.inl (some (.int (nI i)))) σ) : PW d M_Pre_checkIndex 0 [.int (nI i), .int (nI n), va_rf o] [] σ K := by
  refine pw_iload_n dc_Pre_checkIndex_0 rfl ?_
  refine pw_if_lt (tgt := 9) dc_Pre_checkIndex_1 (by decide) (fun hc => ?_) (fun hc => ?_)
  · exact absurd hc (nI_lt0 (by omega))
  · refine pw_iload_n dc_Pre_checkIndex_4 rfl ?_
    refine pw_iload_n dc_Pre_checkIndex_5 rfl ?_
    refine pw_icmp_lt (tgt := 16) dc_Pre_checkIndex_6 (by decide) (fun hc => ?_) (fun hc => ?_)
    · refine pw_iload_n dc_Pre_checkIndex_16 rfl ?_
      exact pw_iret dc_Pre_checkIndex_17 rfl rfl hk
    · exact absurd ((nI_lt_iff (by omega) (by omega)).mpr hi) hc
theorem c_Str_length {a v n : Nat} (h1 : sh σ a = (0, 1)) (h2 : gR σ 9000 a = some v) (h3 : sh σ v = (11, n)) (hn : n < 1000) (hk : K (.inl (some (.int (nI n)))) σ) : PW (d + 1) M_Str_length 0 [.ref a] [] σ K := by
  refine e_Str_length_0 a ⟨h1, v, h2, n, h3, e_Str_coder_0 a ?_⟩
  rw [if_neg (by decide)]
  refine ⟨h1, ?_⟩
  show K (.inl (some (.int (nI n >>> ((0 : Int32) &&& 31))))) σ
  rw [show ((0 : Int32) &&& 31) = 0 from by decide, pk_shrN (by omega) 0 0 (by decide)]
  simpa using hk
theorem c_Str_isLatin1 {a : Nat} (h1 : sh σ a = (0, 1)) (hk : K (.inl (some (.int 1))) σ) : PW d M_Str_isLatin1 0 [.ref a] [] σ K := by
  refine e_Str_isLatin1_0 a ?_
  rw [if_neg (by decide)]
  exact ⟨h1, by rw [if_pos (by decide)]; exact hk⟩
theorem c_Str_charAt {a v i : Nat} (h1 : sh σ a = (0, 1)) (h2 : gR σ 9000 a = some v) (h3 : sh σ v = (11, 21)) (h4 : ∀ j, j < 21 → eI σ v j = figB j) (hi : i < 21) (hk : K (.inl (some (.int (nI (figL.getD i 0))))) σ) : PW (d + 3) M_Str_charAt 0 [.ref a, .int (nI i)] [] σ K := by
  refine e_Str_charAt_0 a (nI i) ⟨h1, c_Str_isLatin1 h1 ?_⟩
  simp only [kI_i]
  rw [if_neg (by decide)]
  refine ⟨h1, v, h2, e_Lat_charAt_0 v (nI i) ⟨21, h3, ?_⟩⟩
  refine e_Str_checkIndex_0 (nI i) (nI 21) (fun o1 => c_Pre_checkIndex hi (by decide) ?_)
  have hl := figL_lt i hi
  have e : (((nI (figL.getD i 0) &&& 255).toUInt32 % 65536).toInt32) = nI (figL.getD i 0) := by
    rw [pk_andN (by omega) 8 (by decide), Nat.mod_eq_of_lt (by omega), i2c_n (by omega)]
  refine ⟨21, h3, in_n hi (by decide), ?_⟩
  rw [ix_n (by omega), h4 i hi, figB_n i hi, e]
  exact ⟨ch_nI (by omega), ch_nI (by omega), hk⟩
theorem c_Lat_indexOfChar {v c : Nat} (h3 : sh σ v = (11, 21)) (h4 : ∀ j, j < 21 → eI σ v j = figB j) (hc : c < 256) (hk : K (.inl (some (.int (if plc figL c < 21 then nI (plc figL c) else m1)))) σ) : ∀ (m i : Nat), plc figL c ≤ i + m → i ≤ plc figL c → PW d M_Lat_indexOfChar 7 [.ref v, uu, uu, .int (nI 21), .int (nI c).toInt8.toInt32, .int (nI i)] [] σ K := by
  obtain ⟨s1, s2, s3⟩ := plc_spec c figL
  have hl : figL.length = 21 := rfl
  intro m
  induction m with
  | zero =>
    intro i h1 h2
    have hi : i = plc figL c := by omega
    refine e_Lat_indexOfChar_7 v _ _ _ ?_
    by_cases hlt : i < 21
    · rw [if_neg (by rw [nI_le_iff (by omega) (by omega)]; omega)]
      refine ⟨21, h3, in_n hlt (by decide), ?_⟩
      rw [ix_n (by omega), h4 i hlt, figB_n i hlt, if_pos ((fig8 c hc i hlt).mpr (by rw [hi]; exact s3 (by omega))), hi]
      rw [if_pos (by omega)] at hk
      exact hk
    · rw [if_pos (by rw [nI_le_iff (by omega) (by omega)]; omega)]
      rw [if_neg (by omega)] at hk
      exact hk
  | succ m ih =>
    intro i h1 h2
    by_cases hi : i = plc figL c
    · exact ih i (by omega) h2
    · refine e_Lat_indexOfChar_7 v _ _ _ ?_
      have hlt : i < 21 := by omega
      rw [if_neg (by rw [nI_le_iff (by omega) (by omega)]; omega)]
      refine ⟨21, h3, in_n hlt (by decide), ?_⟩
      rw [ix_n (by omega), h4 i hlt, figB_n i hlt, if_neg (fun q => s2 i (by omega) ((fig8 c hc i hlt).mp q)), nI_1]
      exact ih (i + 1) (by omega) (by omega)
theorem plc_big {c : Nat} (hc : 128 ≤ c) : plc figL c = 21 := by
  obtain ⟨s1, s2, s3⟩ := plc_spec c figL
  have hl : figL.length = 21 := rfl
  by_cases h : plc figL c < 21
  · have := s3 (by omega)
    have := figL_lt _ h
    omega
  · omega
theorem c_Str_indexOf1 {a v c : Nat} (h1 : sh σ a = (0, 1)) (h2 : gR σ 9000 a = some v) (h3 : sh σ v = (11, 21)) (h4 : ∀ j, j < 21 → eI σ v j = figB j) (hc : c < 65536) (hk : K (.inl (some (.int (if plc figL c < 21 then nI (plc figL c) else m1)))) σ) : PW (d + 3) M_Str_indexOf1 0 [.ref a, .int (nI c)] [] σ K := by
  refine e_Str_indexOf1_0 a (nI c) ⟨h1, e_Str_indexOf2_0 a (nI c) 0 ⟨h1, c_Str_isLatin1 h1 ?_⟩⟩
  simp only [kI_i]
  rw [if_neg (by decide)]
  refine ⟨h1, v, h2, c_Str_length h1 h2 h3 (by decide) ?_⟩
  refine e_Lat_indexOf_0 v _ _ _ (e_Lat_canEncode_0 _ ?_)
  rw [if_neg (nI_lt0 (by omega)), show (255 : Int32) = nI 255 from rfl]
  by_cases hb : 255 < c
  · rw [if_pos ((nI_lt_iff (by omega) (by omega)).mpr hb)]
    simp only [kI_i]
    rw [if_pos trivial]
    rw [if_neg (by rw [plc_big (by omega)]; decide)] at hk
    exact hk
  · rw [if_neg (fun q => hb ((nI_lt_iff (by omega) (by omega)).mp q))]
    simp only [kI_i]
    rw [if_neg (by decide)]
    refine ⟨21, h3, ?_⟩
    rw [if_pos (by decide)]
    refine e_Lat_indexOfChar_0 v _ _ _ ?_
    rw [show (if nI 21 < nI 21 then nI 21 else nI 21) = nI 21 from by decide, show (if (0 : Int32) < 0 then (0 : Int32) else 0) = nI 0 from by decide]
    refine c_Lat_indexOfChar h3 h4 (by omega) ?_ (plc figL c) 0 (by omega) (Nat.zero_le _)
    simp only [kI_i]
    exact hk
theorem bn_0 : nI (Bool.toNat false) = 0 := rfl
theorem bn_1 : nI (Bool.toNat true) = 1 := rfl
theorem bn_z {b : Bool} : (nI b.toNat = 0) = (b = false) := by cases b <;> decide
theorem bn_z' {b : Bool} : (nI b.toNat = nI 0) = (b = false) := by cases b <;> decide
theorem c_Signs_characterOf {s : Nat} {fg : Bool} (hs : s < 32) (hk : K (.inl (some (.int (nI (chr s fg))))) σ) : PW (d + 4) M_Signs_characterOf 0 [.int (nI s), .int (nI fg.toNat)] [] σ K := by
  refine e_Signs_characterOf_0 _ _ ?_
  unfold chr at hk
  simp (disch := omega) only [l_0, l_1, l_2, l_3, l_4, l_5, l_6, l_7, l_8, l_9, l_10, l_11, l_12, l_13, l_14, l_15, l_16, l_17, l_18, l_19, l_20, l_21, l_22, l_23, l_24, l_25, l_26, l_27, l_28, l_29, l_30, l_31, l_32, l_33, l_34, l_35, l_36, l_37, l_38, l_39, l_40, l_41, l_42, l_43, l_44, l_45, l_46, l_47, l_48, l_49, l_50, l_51, l_52, l_53, l_54, l_55, l_56, l_57, l_58, l_59, l_60, l_61, l_62, l_63, l_64, l_65, l_66, l_67, l_68, l_69, l_70, l_71, l_72, l_73, l_74, l_75, l_76, l_77, l_78, l_79, l_80, l_81, l_82, l_83, l_84, l_85, l_86, l_87, l_88, l_89, l_90, l_91, l_92, l_93, l_94, l_95, l_96, l_97, l_98, l_99, l_100, l_101, l_102, l_103, l_104, l_105, l_106, l_107, l_108, l_109, l_110, l_111, l_112, l_113, l_114, l_115, l_116, l_117, l_118, l_119, l_120, l_121, l_122, l_123, l_124, l_125, l_126, l_127, l_128, l_129, l_130, l_256, l_512, l_676, l_704, l_999, l_1000, l_4096, l_17576, l_32768, l_65535, l_456975, l_456976, l_m1, l_m2, in_iff, eq_m1, m1_eq, m1_lt, m1_le, le_m1, lt_m1, eq_m2, m2_m1, m1_m2, add_m1, m1_add, sub_n, mul_n, add_n, bo_n0, bo_n1, ch_n, lt_n, le_n, eq_n, ix_n, i2c_n, rem_n, div_n, kI_i, kI_x, kV_v, kV_x, kR_r, kR_n, kR_x, kHI_i, kHI_0, kHI_1, kHV_v, kHV_0, kHV_1, va_s, va_n, exists_eq_left', exists_eq_left, forall_eq, forall_eq', and_true, true_and, and_self, Option.some.injEq, Prod.mk.injEq, if_tt, if_ff, reduceIte, reduceCtorEq, not_true_eq_false, not_false_eq_true, Nat.reduceAdd, Nat.reduceMul, Nat.reduceSub, Nat.reduceLT, Nat.reduceLeDiff, Nat.reduceEqDiff, false_implies, true_implies, implies_true]
  by_cases h26 : s = 26
  · subst h26; exact hk
  · rw [if_neg h26] at hk ⊢
    by_cases h27 : s = 27
    · subst h27; exact hk
    · rw [if_neg h27] at hk ⊢
      rw [if_neg (by omega)]
      cases fg with
      | false =>
        rw [if_pos (by decide)]
        refine e_Signs_characterOf_37 _ _ _ _ ?_
        rw [if_neg (by decide)] at hk
        simp (disch := omega) only [l_0, l_1, l_2, l_3, l_4, l_5, l_6, l_7, l_8, l_9, l_10, l_11, l_12, l_13, l_14, l_15, l_16, l_17, l_18, l_19, l_20, l_21, l_22, l_23, l_24, l_25, l_26, l_27, l_28, l_29, l_30, l_31, l_32, l_33, l_34, l_35, l_36, l_37, l_38, l_39, l_40, l_41, l_42, l_43, l_44, l_45, l_46, l_47, l_48, l_49, l_50, l_51, l_52, l_53, l_54, l_55, l_56, l_57, l_58, l_59, l_60, l_61, l_62, l_63, l_64, l_65, l_66, l_67, l_68, l_69, l_70, l_71, l_72, l_73, l_74, l_75, l_76, l_77, l_78, l_79, l_80, l_81, l_82, l_83, l_84, l_85, l_86, l_87, l_88, l_89, l_90, l_91, l_92, l_93, l_94, l_95, l_96, l_97, l_98, l_99, l_100, l_101, l_102, l_103, l_104, l_105, l_106, l_107, l_108, l_109, l_110, l_111, l_112, l_113, l_114, l_115, l_116, l_117, l_118, l_119, l_120, l_121, l_122, l_123, l_124, l_125, l_126, l_127, l_128, l_129, l_130, l_256, l_512, l_676, l_704, l_999, l_1000, l_4096, l_17576, l_32768, l_65535, l_456975, l_456976, l_m1, l_m2, in_iff, eq_m1, m1_eq, m1_lt, m1_le, le_m1, lt_m1, eq_m2, m2_m1, m1_m2, add_m1, m1_add, sub_n, mul_n, add_n, bo_n0, bo_n1, ch_n, lt_n, le_n, eq_n, ix_n, i2c_n, rem_n, div_n, kI_i, kI_x, kV_v, kV_x, kR_r, kR_n, kR_x, kHI_i, kHI_0, kHI_1, kHV_v, kHV_0, kHV_1, va_s, va_n, exists_eq_left', exists_eq_left, forall_eq, forall_eq', and_true, true_and, and_self, Option.some.injEq, Prod.mk.injEq, if_tt, if_ff, reduceIte, reduceCtorEq, not_true_eq_false, not_false_eq_true, Nat.reduceAdd, Nat.reduceMul, Nat.reduceSub, Nat.reduceLT, Nat.reduceLeDiff, Nat.reduceEqDiff, false_implies, true_implies, implies_true]
        by_cases hlt : s < 26
        · rw [if_pos hlt] at hk ⊢
          rw [if_pos (by decide)]
          exact hk
        · rw [if_neg hlt] at hk ⊢
          exact hk
      | true =>
        rw [if_neg (by decide)]
        intro a v h1 h2 h3 h4
        refine c_Str_length h1 h2 h3 (by decide) ?_
        refine e_Signs_characterOf_37 _ _ _ _ ?_
        rw [if_pos rfl] at hk
        simp (disch := omega) only [l_0, l_1, l_2, l_3, l_4, l_5, l_6, l_7, l_8, l_9, l_10, l_11, l_12, l_13, l_14, l_15, l_16, l_17, l_18, l_19, l_20, l_21, l_22, l_23, l_24, l_25, l_26, l_27, l_28, l_29, l_30, l_31, l_32, l_33, l_34, l_35, l_36, l_37, l_38, l_39, l_40, l_41, l_42, l_43, l_44, l_45, l_46, l_47, l_48, l_49, l_50, l_51, l_52, l_53, l_54, l_55, l_56, l_57, l_58, l_59, l_60, l_61, l_62, l_63, l_64, l_65, l_66, l_67, l_68, l_69, l_70, l_71, l_72, l_73, l_74, l_75, l_76, l_77, l_78, l_79, l_80, l_81, l_82, l_83, l_84, l_85, l_86, l_87, l_88, l_89, l_90, l_91, l_92, l_93, l_94, l_95, l_96, l_97, l_98, l_99, l_100, l_101, l_102, l_103, l_104, l_105, l_106, l_107, l_108, l_109, l_110, l_111, l_112, l_113, l_114, l_115, l_116, l_117, l_118, l_119, l_120, l_121, l_122, l_123, l_124, l_125, l_126, l_127, l_128, l_129, l_130, l_256, l_512, l_676, l_704, l_999, l_1000, l_4096, l_17576, l_32768, l_65535, l_456975, l_456976, l_m1, l_m2, in_iff, eq_m1, m1_eq, m1_lt, m1_le, le_m1, lt_m1, eq_m2, m2_m1, m1_m2, add_m1, m1_add, sub_n, mul_n, add_n, bo_n0, bo_n1, ch_n, lt_n, le_n, eq_n, ix_n, i2c_n, rem_n, div_n, kI_i, kI_x, kV_v, kV_x, kR_r, kR_n, kR_x, kHI_i, kHI_0, kHI_1, kHV_v, kHV_0, kHV_1, va_s, va_n, exists_eq_left', exists_eq_left, forall_eq, forall_eq', and_true, true_and, and_self, Option.some.injEq, Prod.mk.injEq, if_tt, if_ff, reduceIte, reduceCtorEq, not_true_eq_false, not_false_eq_true, Nat.reduceAdd, Nat.reduceMul, Nat.reduceSub, Nat.reduceLT, Nat.reduceLeDiff, Nat.reduceEqDiff, false_implies, true_implies, implies_true]
        by_cases hlt : s < 21
        · rw [if_pos hlt] at hk ⊢
          rw [if_neg (by decide)]
          intro a v h1 h2 h3 h4
          refine c_Str_charAt h1 h2 h3 h4 hlt ?_
          exact ⟨ch_nI (by have := figL_lt s hlt; omega), hk⟩
        · rw [if_neg hlt] at hk ⊢
          exact hk
theorem c_Signs_isLetter {c : Nat} (hc : c < 65536) (hk : K (.inl (some (.int (nI (isL c).toNat)))) σ) : PW d M_Signs_isLetter 0 [.int (nI c)] [] σ K := by
  refine e_Signs_isLetter_0 _ ?_
  unfold isL at hk
  simp (disch := omega) only [l_0, l_1, l_2, l_3, l_4, l_5, l_6, l_7, l_8, l_9, l_10, l_11, l_12, l_13, l_14, l_15, l_16, l_17, l_18, l_19, l_20, l_21, l_22, l_23, l_24, l_25, l_26, l_27, l_28, l_29, l_30, l_31, l_32, l_33, l_34, l_35, l_36, l_37, l_38, l_39, l_40, l_41, l_42, l_43, l_44, l_45, l_46, l_47, l_48, l_49, l_50, l_51, l_52, l_53, l_54, l_55, l_56, l_57, l_58, l_59, l_60, l_61, l_62, l_63, l_64, l_65, l_66, l_67, l_68, l_69, l_70, l_71, l_72, l_73, l_74, l_75, l_76, l_77, l_78, l_79, l_80, l_81, l_82, l_83, l_84, l_85, l_86, l_87, l_88, l_89, l_90, l_91, l_92, l_93, l_94, l_95, l_96, l_97, l_98, l_99, l_100, l_101, l_102, l_103, l_104, l_105, l_106, l_107, l_108, l_109, l_110, l_111, l_112, l_113, l_114, l_115, l_116, l_117, l_118, l_119, l_120, l_121, l_122, l_123, l_124, l_125, l_126, l_127, l_128, l_129, l_130, l_256, l_512, l_676, l_704, l_999, l_1000, l_4096, l_17576, l_32768, l_65535, l_456975, l_456976, l_m1, l_m2, in_iff, eq_m1, m1_eq, m1_lt, m1_le, le_m1, lt_m1, eq_m2, m2_m1, m1_m2, add_m1, m1_add, sub_n, mul_n, add_n, bo_n0, bo_n1, ch_n, lt_n, le_n, eq_n, ix_n, i2c_n, rem_n, div_n, kI_i, kI_x, kV_v, kV_x, kR_r, kR_n, kR_x, kHI_i, kHI_0, kHI_1, kHV_v, kHV_0, kHV_1, va_s, va_n, exists_eq_left', exists_eq_left, forall_eq, forall_eq', and_true, true_and, and_self, Option.some.injEq, Prod.mk.injEq, if_tt, if_ff, reduceIte, reduceCtorEq, not_true_eq_false, not_false_eq_true, Nat.reduceAdd, Nat.reduceMul, Nat.reduceSub, Nat.reduceLT, Nat.reduceLeDiff, Nat.reduceEqDiff, false_implies, true_implies, implies_true]
  by_cases h1 : c < 65
  · rw [if_pos h1]; rw [decide_eq_false (by omega)] at hk; exact hk
  · rw [if_neg h1]
    by_cases h2 : 90 < c
    · rw [if_pos h2]; rw [decide_eq_false (by omega)] at hk; exact hk
    · rw [if_neg h2]; rw [decide_eq_true (by omega)] at hk; exact hk
theorem c_Signs_isDigit {c : Nat} (hc : c < 65536) (hk : K (.inl (some (.int (nI (isD c).toNat)))) σ) : PW d M_Signs_isDigit 0 [.int (nI c)] [] σ K := by
  refine e_Signs_isDigit_0 _ ?_
  unfold isD at hk
  simp (disch := omega) only [l_0, l_1, l_2, l_3, l_4, l_5, l_6, l_7, l_8, l_9, l_10, l_11, l_12, l_13, l_14, l_15, l_16, l_17, l_18, l_19, l_20, l_21, l_22, l_23, l_24, l_25, l_26, l_27, l_28, l_29, l_30, l_31, l_32, l_33, l_34, l_35, l_36, l_37, l_38, l_39, l_40, l_41, l_42, l_43, l_44, l_45, l_46, l_47, l_48, l_49, l_50, l_51, l_52, l_53, l_54, l_55, l_56, l_57, l_58, l_59, l_60, l_61, l_62, l_63, l_64, l_65, l_66, l_67, l_68, l_69, l_70, l_71, l_72, l_73, l_74, l_75, l_76, l_77, l_78, l_79, l_80, l_81, l_82, l_83, l_84, l_85, l_86, l_87, l_88, l_89, l_90, l_91, l_92, l_93, l_94, l_95, l_96, l_97, l_98, l_99, l_100, l_101, l_102, l_103, l_104, l_105, l_106, l_107, l_108, l_109, l_110, l_111, l_112, l_113, l_114, l_115, l_116, l_117, l_118, l_119, l_120, l_121, l_122, l_123, l_124, l_125, l_126, l_127, l_128, l_129, l_130, l_256, l_512, l_676, l_704, l_999, l_1000, l_4096, l_17576, l_32768, l_65535, l_456975, l_456976, l_m1, l_m2, in_iff, eq_m1, m1_eq, m1_lt, m1_le, le_m1, lt_m1, eq_m2, m2_m1, m1_m2, add_m1, m1_add, sub_n, mul_n, add_n, bo_n0, bo_n1, ch_n, lt_n, le_n, eq_n, ix_n, i2c_n, rem_n, div_n, kI_i, kI_x, kV_v, kV_x, kR_r, kR_n, kR_x, kHI_i, kHI_0, kHI_1, kHV_v, kHV_0, kHV_1, va_s, va_n, exists_eq_left', exists_eq_left, forall_eq, forall_eq', and_true, true_and, and_self, Option.some.injEq, Prod.mk.injEq, if_tt, if_ff, reduceIte, reduceCtorEq, not_true_eq_false, not_false_eq_true, Nat.reduceAdd, Nat.reduceMul, Nat.reduceSub, Nat.reduceLT, Nat.reduceLeDiff, Nat.reduceEqDiff, false_implies, true_implies, implies_true]
  by_cases h1 : c < 48
  · rw [if_pos h1]; rw [decide_eq_false (by omega)] at hk; exact hk
  · rw [if_neg h1]
    by_cases h2 : 57 < c
    · rw [if_pos h2]; rw [decide_eq_false (by omega)] at hk; exact hk
    · rw [if_neg h2]; rw [decide_eq_true (by omega)] at hk; exact hk
theorem c_Signs_isInBothShifts {c : Nat} (hc : c < 65536) (hk : K (.inl (some (.int (nI (isB c).toNat)))) σ) : PW d M_Signs_isInBothShifts 0 [.int (nI c)] [] σ K := by
  refine e_Signs_isInBothShifts_0 _ ?_
  unfold isB at hk
  simp (disch := omega) only [l_0, l_1, l_2, l_3, l_4, l_5, l_6, l_7, l_8, l_9, l_10, l_11, l_12, l_13, l_14, l_15, l_16, l_17, l_18, l_19, l_20, l_21, l_22, l_23, l_24, l_25, l_26, l_27, l_28, l_29, l_30, l_31, l_32, l_33, l_34, l_35, l_36, l_37, l_38, l_39, l_40, l_41, l_42, l_43, l_44, l_45, l_46, l_47, l_48, l_49, l_50, l_51, l_52, l_53, l_54, l_55, l_56, l_57, l_58, l_59, l_60, l_61, l_62, l_63, l_64, l_65, l_66, l_67, l_68, l_69, l_70, l_71, l_72, l_73, l_74, l_75, l_76, l_77, l_78, l_79, l_80, l_81, l_82, l_83, l_84, l_85, l_86, l_87, l_88, l_89, l_90, l_91, l_92, l_93, l_94, l_95, l_96, l_97, l_98, l_99, l_100, l_101, l_102, l_103, l_104, l_105, l_106, l_107, l_108, l_109, l_110, l_111, l_112, l_113, l_114, l_115, l_116, l_117, l_118, l_119, l_120, l_121, l_122, l_123, l_124, l_125, l_126, l_127, l_128, l_129, l_130, l_256, l_512, l_676, l_704, l_999, l_1000, l_4096, l_17576, l_32768, l_65535, l_456975, l_456976, l_m1, l_m2, in_iff, eq_m1, m1_eq, m1_lt, m1_le, le_m1, lt_m1, eq_m2, m2_m1, m1_m2, add_m1, m1_add, sub_n, mul_n, add_n, bo_n0, bo_n1, ch_n, lt_n, le_n, eq_n, ix_n, i2c_n, rem_n, div_n, kI_i, kI_x, kV_v, kV_x, kR_r, kR_n, kR_x, kHI_i, kHI_0, kHI_1, kHV_v, kHV_0, kHV_1, va_s, va_n, exists_eq_left', exists_eq_left, forall_eq, forall_eq', and_true, true_and, and_self, Option.some.injEq, Prod.mk.injEq, if_tt, if_ff, reduceIte, reduceCtorEq, not_true_eq_false, not_false_eq_true, Nat.reduceAdd, Nat.reduceMul, Nat.reduceSub, Nat.reduceLT, Nat.reduceLeDiff, Nat.reduceEqDiff, false_implies, true_implies, implies_true]
  by_cases h1 : c = 32
  · rw [if_pos h1]; rw [decide_eq_true (by omega)] at hk; exact hk
  · rw [if_neg h1]
    by_cases h2 : c = 10
    · rw [if_pos h2]; rw [decide_eq_true (by omega)] at hk; exact hk
    · rw [if_neg h2]; rw [decide_eq_false (by omega)] at hk; exact hk
theorem c_Signs_signOf {c : Nat} (hc : c < 65536) (hk : K (.inl (some (.int (sgI c)))) σ) : PW (d + 4) M_Signs_signOf 0 [.int (nI c)] [] σ K := by
  refine e_Signs_signOf_0 _ ?_
  unfold sgI sg at hk
  simp (disch := omega) only [l_0, l_1, l_2, l_3, l_4, l_5, l_6, l_7, l_8, l_9, l_10, l_11, l_12, l_13, l_14, l_15, l_16, l_17, l_18, l_19, l_20, l_21, l_22, l_23, l_24, l_25, l_26, l_27, l_28, l_29, l_30, l_31, l_32, l_33, l_34, l_35, l_36, l_37, l_38, l_39, l_40, l_41, l_42, l_43, l_44, l_45, l_46, l_47, l_48, l_49, l_50, l_51, l_52, l_53, l_54, l_55, l_56, l_57, l_58, l_59, l_60, l_61, l_62, l_63, l_64, l_65, l_66, l_67, l_68, l_69, l_70, l_71, l_72, l_73, l_74, l_75, l_76, l_77, l_78, l_79, l_80, l_81, l_82, l_83, l_84, l_85, l_86, l_87, l_88, l_89, l_90, l_91, l_92, l_93, l_94, l_95, l_96, l_97, l_98, l_99, l_100, l_101, l_102, l_103, l_104, l_105, l_106, l_107, l_108, l_109, l_110, l_111, l_112, l_113, l_114, l_115, l_116, l_117, l_118, l_119, l_120, l_121, l_122, l_123, l_124, l_125, l_126, l_127, l_128, l_129, l_130, l_256, l_512, l_676, l_704, l_999, l_1000, l_4096, l_17576, l_32768, l_65535, l_456975, l_456976, l_m1, l_m2, in_iff, eq_m1, m1_eq, m1_lt, m1_le, le_m1, lt_m1, eq_m2, m2_m1, m1_m2, add_m1, m1_add, sub_n, mul_n, add_n, bo_n0, bo_n1, ch_n, lt_n, le_n, eq_n, ix_n, i2c_n, rem_n, div_n, kI_i, kI_x, kV_v, kV_x, kR_r, kR_n, kR_x, kHI_i, kHI_0, kHI_1, kHV_v, kHV_0, kHV_1, va_s, va_n, exists_eq_left', exists_eq_left, forall_eq, forall_eq', and_true, true_and, and_self, Option.some.injEq, Prod.mk.injEq, if_tt, if_ff, reduceIte, reduceCtorEq, not_true_eq_false, not_false_eq_true, Nat.reduceAdd, Nat.reduceMul, Nat.reduceSub, Nat.reduceLT, Nat.reduceLeDiff, Nat.reduceEqDiff, false_implies, true_implies, implies_true]
  by_cases h1 : c = 32
  · rw [if_pos h1]; rw [if_pos h1] at hk; exact hk
  · rw [if_neg h1]; rw [if_neg h1] at hk
    by_cases h2 : c = 10
    · rw [if_pos h2]; rw [if_pos h2] at hk; exact hk
    · rw [if_neg h2]; rw [if_neg h2] at hk
      refine c_Signs_isLetter hc ?_
      simp only [kI_i]
      cases hl : isL c with
      | true =>
        rw [hl, if_pos rfl] at hk
        have := of_decide_eq_true hl
        rw [if_neg (by decide), sub_n (by omega)]
        rw [if_pos (by omega)] at hk
        exact hk
      | false =>
        rw [hl, if_neg (show ¬ (false = true) by decide)] at hk
        rw [if_pos (by decide)]
        intro a v g1 g2 g3 g4
        refine c_Str_indexOf1 g1 g2 g3 g4 hc ?_
        by_cases hp : plc figL c < 21
        · rw [if_pos hp, if_pos (by omega)] at hk
          simp only [kI_i]
          rw [if_pos hp]
          exact hk
        · rw [if_neg hp, if_neg (by omega)] at hk
          simp only [kI_i]
          rw [if_neg hp]
          exact hk
end CSigns
