/-! ===== contracts of Message and Case ===== -/
/-- a message: precedence, indicators, body, for each channel its fate: 0 none, 1 waits, 2 is being sent, n + 2 sent as n -/
abbrev MS : Type := Nat × List Nat × List Nat × (Nat → Nat)
def ms0 : MS := (0, [], [], fun _ => 0)
def fI (F : Nat) : Int32 := if F = 0 then nI 0 else if F = 1 then m1 else if F = 2 then m2 else nI (F - 2)
theorem fI_m1 {F : Nat} (h : F < 2000) : (fI F = m1) = (F = 1) := by
  unfold fI
  by_cases h0 : F = 0
  · rw [if_pos h0, eq_m1 (by decide)]; refine propext ⟨fun q => q.elim, fun q => by omega⟩
  · rw [if_neg h0]
    by_cases h1 : F = 1
    · rw [if_pos h1]; exact propext ⟨fun _ => h1, fun _ => rfl⟩
    · rw [if_neg h1]
      by_cases h2 : F = 2
      · rw [if_pos h2, m2_m1]; exact propext ⟨fun q => q.elim, fun q => by omega⟩
      · rw [if_neg h2, eq_m1 (by omega)]; exact propext ⟨fun q => q.elim, fun q => by omega⟩
def ME (σ : PH) (a : Nat) (m : MS) : Prop := sh σ a = (1, 6) ∧ gR σ 385 a = some (a + 1) ∧ sh σ (a + 1) = (2, 4) ∧ gR σ 387 a = some (a + 2) ∧ TX σ (a + 2) 60 m.2.2.1 ∧ gR σ 388 a = some (a + 4) ∧ sh σ (a + 4) = (2, 8) ∧ gI σ 384 a = nI m.1 ∧ m.1 ≤ 4 ∧ gI σ 386 a = nI m.2.1.length ∧ m.2.1.length ≤ 4 ∧ (∀ i, i < m.2.1.length → eI σ (a + 1) i = nI (m.2.1.getD i 0)) ∧ (∀ k ∈ m.2.1, k < 456976) ∧ (∀ c, c < 8 → eI σ (a + 4) c = fI (m.2.2.2 c) ∧ m.2.2.2 c < 2000) ∧ 5 * m.2.1.length + m.2.2.1.length ≤ 54
theorem ME.ag {σ σ' : PH} {a : Nat} {m : MS} (h : ME σ a m) (h1 : ∀ q, a ≤ q → q < a + 5 → Ag σ σ' q) : ME σ' a m := by
  obtain ⟨a1, a2, a3, a4, a5, a6, a7, a8, a9, a10, a11, a12, a13, a14, a15⟩ := h
  have g0 := h1 a (by omega) (by omega)
  have g1 := h1 (a + 1) (by omega) (by omega)
  have g4 := h1 (a + 4) (by omega) (by omega)
  exact ⟨by rw [g0.1]; exact a1, by rw [g0.2.2.1]; exact a2, by rw [g1.1]; exact a3, by rw [g0.2.2.1]; exact a4, a5.ag (h1 _ (by omega) (by omega)) (h1 _ (by omega) (by omega)), by rw [g0.2.2.1]; exact a6, by rw [g4.1]; exact a7, by rw [g0.2.1]; exact a8, a9, by rw [g0.2.1]; exact a10, a11, fun i hi => by rw [g1.2.2.2.1]; exact a12 i hi, a13, fun c hc => by rw [g4.2.2.2.1]; exact a14 c hc, a15⟩
abbrev mP (a : Nat) : Nat → Prop := fun q => a ≤ q ∧ q < a + 5
section CMessage
variable {d : Nat} {σ : PH} {K : PO → PH → Prop} {a t cap : Nat} {m : MS} {xs zs : List Nat}
/-- one fate changed -/
theorem ME.fate {c F : Nat} (h : ME σ a m) (hc : c < 8) (hF : F < 2000) : ME (uI σ (a + 4) c (fI F)) a (m.1, m.2.1, m.2.2.1, fun x => if x = c then F else m.2.2.2 x) := by
  obtain ⟨a1, a2, a3, a4, a5, a6, a7, a8, a9, a10, a11, a12, a13, a14, a15⟩ := h
  refine ⟨a1, a2, a3, a4, a5.ag (Ag.uI (by omega)) (Ag.uI (by omega)), a6, a7, a8, a9, a10, a11, fun i hi => by rw [eI_uI, if_neg (by omega)]; exact a12 i hi, a13, fun x hx => ?_, a15⟩
  show eI (uI σ (a + 4) c (fI F)) (a + 4) x = fI (if x = c then F else m.2.2.2 x) ∧ (if x = c then F else m.2.2.2 x) < 2000
  rw [eI_uI]
  by_cases hxc : x = c
  · rw [if_pos ⟨rfl, hxc⟩, if_pos hxc]; exact ⟨rfl, hF⟩
  · rw [if_neg (fun q => hxc q.2), if_neg hxc]; exact a14 x hx
theorem c_Message_waitsOn {c : Nat} (h : ME σ a m) (hc : c < 8) (hk : K (.inl (some (.int (nI (decide (m.2.2.2 c = 1)).toNat)))) σ) : PW d M_Message_waitsOn 0 [.ref a, .int (nI c)] [] σ K := by
  obtain ⟨a1, a2, a3, a4, a5, a6, a7, a8, a9, a10, a11, a12, a13, a14, a15⟩ := h
  obtain ⟨e, hb⟩ := a14 c hc
  refine e_Message_waitsOn_0 a _ ?_
  simp (disch := omega) only [bs_pI, cc_pI, cs_pI, sh_pI, gR_pI, eI_pI, eR_pI, eL_pI, bs_pR, cc_pR, cs_pR, sh_pR, gI_pR, eI_pR, eR_pR, eL_pR, bs_uI, cc_uI, cs_uI, sh_uI, gI_uI, gR_uI, eR_uI, eL_uI, bs_uR, cc_uR, cs_uR, sh_uR, gI_uR, gR_uR, eI_uR, eL_uR, bs_uL, cc_uL, cs_uL, sh_uL, gI_uL, gR_uL, eI_uL, eR_uL, gI_s, gI_d, gR_s, gR_d, eI_s, eI_d, eI_e, eR_s, eR_d, eR_e, eL_s, eL_d, bs_bump, cc_bump, cs_bump, sh_bump, gI_bump, gR_bump, eI_bump, eR_bump, eL_bump, l_0, l_1, l_2, l_3, l_4, l_5, l_6, l_7, l_8, l_9, l_10, l_11, l_12, l_13, l_14, l_15, l_16, l_17, l_18, l_19, l_20, l_21, l_22, l_23, l_24, l_25, l_26, l_27, l_28, l_29, l_30, l_31, l_32, l_33, l_34, l_35, l_36, l_37, l_38, l_39, l_40, l_41, l_42, l_43, l_44, l_45, l_46, l_47, l_48, l_49, l_50, l_51, l_52, l_53, l_54, l_55, l_56, l_57, l_58, l_59, l_60, l_61, l_62, l_63, l_64, l_65, l_66, l_67, l_68, l_69, l_70, l_71, l_72, l_73, l_74, l_75, l_76, l_77, l_78, l_79, l_80, l_81, l_82, l_83, l_84, l_85, l_86, l_87, l_88, l_89, l_90, l_91, l_92, l_93, l_94, l_95, l_96, l_97, l_98, l_99, l_100, l_101, l_102, l_103, l_104, l_105, l_106, l_107, l_108, l_109, l_110, l_111, l_112, l_113, l_114, l_115, l_116, l_117, l_118, l_119, l_120, l_121, l_122, l_123, l_124, l_125, l_126, l_127, l_128, l_129, l_130, l_256, l_512, l_676, l_704, l_999, l_1000, l_4096, l_17576, l_32768, l_65535, l_456975, l_456976, l_m1, l_m2, in_iff, eq_m1, m1_eq, m1_lt, m1_le, le_m1, lt_m1, eq_m2, m2_m1, m1_m2, add_m1, m1_add, sub_n, mul_n, add_n, bo_n0, bo_n1, ch_n, lt_n, le_n, eq_n, ix_n, i2c_n, rem_n, div_n, kI_i, kI_x, kV_v, kV_x, kR_r, kR_n, kR_x, kHI_i, kHI_0, kHI_1, kHV_v, kHV_0, kHV_1, va_s, va_n, exists_eq_left', exists_eq_left, forall_eq, forall_eq', and_true, true_and, and_self, Option.some.injEq, Prod.mk.injEq, if_tt, if_ff, reduceIte, reduceCtorEq, not_true_eq_false, not_false_eq_true, Nat.reduceAdd, Nat.reduceMul, Nat.reduceSub, Nat.reduceLT, Nat.reduceLeDiff, Nat.reduceEqDiff, false_implies, true_implies, implies_true, a1, a6, a7, e, fI_m1 hb]
  refine ⟨by omega, ?_⟩
  by_cases h1 : m.2.2.2 c = 1
  · rw [if_pos h1]; rw [decide_eq_true h1] at hk; exact hk
  · rw [if_neg h1]; rw [decide_eq_false h1] at hk; exact hk
theorem c_Text_addA {c : Nat} (h : TX σ t cap (addL cap [] zs)) (hc : c < 128) (hk : ∀ σ', TX σ' t cap (addL cap [] (zs ++ [c])) → Fr (tP t) σ σ' → K (.inl none) σ') : PW d M_Text_add 0 [.ref t, .int (nI c)] [] σ K :=
  c_Text_add1 h hc (fun σ' h1 h2 => hk σ' (by rw [addL_addL] at h1; exact h1) h2)
/-- what an indicator adds to a tape, and a message's whole tape -/
def tInd (is : List Nat) : List Nat := is.flatMap (fun k => 32 :: let4 k)
def tHead (m : MS) (n : Nat) (ag : Bool) : List Nat := dig3 n ++ [32] ++ (if ag = true then [82, 32] else []) ++ [48 + m.1]
def tBody (bd : List Nat) : List Nat := if bd ≠ [] ∧ bd.getD (bd.length - 1) 0 ≠ 10 then bd ++ [10] else bd
def tape (m : MS) (n : Nat) (ag : Bool) : List Nat := tHead m n ag ++ tInd m.2.1 ++ [10] ++ tBody m.2.2.1 ++ [78, 78, 78, 78, 10]
theorem tInd_len (is : List Nat) : (tInd is).length = 5 * is.length := by
  induction is with
  | nil => rfl
  | cons k is ih => unfold tInd at ih ⊢; rw [List.flatMap_cons, List.length_append, ih]; simp [let4]; omega
theorem tape_len {n : Nat} {ag : Bool} (h : 5 * m.2.1.length + m.2.2.1.length ≤ 54) : (tape m n ag).length ≤ 68 := by
  unfold tape tHead tBody
  simp only [List.length_append, tInd_len]
  have h1 : (dig3 n).length = 3 := rfl
  have h2 : (if ag = true then [82, 32] else ([] : List Nat)).length ≤ 2 := by split <;> simp
  have h3 : (if m.2.2.1 ≠ [] ∧ m.2.2.1.getD (m.2.2.1.length - 1) 0 ≠ 10 then m.2.2.1 ++ [10] else m.2.2.1).length ≤ m.2.2.1.length + 1 := by split <;> simp
  simp only [List.length_cons, List.length_nil]
  omega
theorem tape_pos {n : Nat} {ag : Bool} : 5 ≤ (tape m n ag).length := by
  unfold tape
  rw [List.length_append]
  simp
theorem writeOn_end {σ0 : PH} (hk : ∀ σ', TX σ' t cap (addL cap [] (zs ++ [78, 78, 78, 78, 10])) → Fr (tP t) σ0 σ' → K (.inl none) σ') (h : TX σ t cap (addL cap [] zs)) (hf : Fr (tP t) σ0 σ) : PW (d + 1) M_Message_writeOn 130 [uu, .ref t, uu, uu, uu] [] σ K := by
  refine e_Message_writeOn_130 t (e_Message_writeOn_133 t 0 ?_)
  rw [if_neg (by decide)]
  refine ⟨h.1, c_Text_addA (c := 78) h (by decide) (fun σ1 g1 f1 => ?_)⟩
  refine e_Message_writeOn_133 t 1 ?_
  rw [if_neg (by decide)]
  refine ⟨g1.1, c_Text_addA (c := 78) g1 (by decide) (fun σ2 g2 f2 => ?_)⟩
  refine e_Message_writeOn_133 t 2 ?_
  rw [if_neg (by decide)]
  refine ⟨g2.1, c_Text_addA (c := 78) g2 (by decide) (fun σ3 g3 f3 => ?_)⟩
  refine e_Message_writeOn_133 t 3 ?_
  rw [if_neg (by decide)]
  refine ⟨g3.1, c_Text_addA (c := 78) g3 (by decide) (fun σ4 g4 f4 => ?_)⟩
  refine e_Message_writeOn_133 t 4 ?_
  rw [if_pos (by decide)]
  refine ⟨g4.1, c_Text_addA (c := 10) g4 (by decide) (fun σ5 g5 f5 => ?_)⟩
  refine hk σ5 ?_ (((((hf.tr f1).tr f2).tr f3).tr f4).tr f5)
  simpa using g5
theorem getD_last {xs : List Nat} (h : xs.length ≤ 60) : xs.getD (xs.length - 1) 0 = xs.getD (xs.length - 1) 0 := rfl
theorem writeOn_46 {σ0 : PH} (hta : a + 5 ≤ t ∨ t + 1 < a) (hm : ME σ0 a m) (hk : ∀ σ', TX σ' t cap (addL cap [] (xs ++ tInd m.2.1 ++ [10] ++ tBody m.2.2.1 ++ [78, 78, 78, 78, 10])) → Fr (tP t) σ0 σ' → K (.inl none) σ') : ∀ (n i : Nat) (σ : PH), i + n = m.2.1.length → TX σ t cap (addL cap [] (xs ++ tInd (m.2.1.take i))) → Fr (tP t) σ0 σ → PW (d + 2) M_Message_writeOn 46 [.ref a, .ref t, uu, uu, .int (nI i)] [] σ K := by
  have keep : ∀ σ, Fr (tP t) σ0 σ → ME σ a m := fun σ hf => hm.ag (fun q h1 h2 => hf.ag (by unfold tP; omega))
  intro n
  induction n with
  | zero =>
    intro i σ hi h hf
    obtain ⟨a1, a2, a3, a4, a5, a6, a7, a8, a9, a10, a11, a12, a13, a14, a15⟩ := keep σ hf
    rw [List.take_of_length_le (by omega)] at h
    refine e_Message_writeOn_46 a t _ ?_
    simp (disch := omega) only [bs_pI, cc_pI, cs_pI, sh_pI, gR_pI, eI_pI, eR_pI, eL_pI, bs_pR, cc_pR, cs_pR, sh_pR, gI_pR, eI_pR, eR_pR, eL_pR, bs_uI, cc_uI, cs_uI, sh_uI, gI_uI, gR_uI, eR_uI, eL_uI, bs_uR, cc_uR, cs_uR, sh_uR, gI_uR, gR_uR, eI_uR, eL_uR, bs_uL, cc_uL, cs_uL, sh_uL, gI_uL, gR_uL, eI_uL, eR_uL, gI_s, gI_d, gR_s, gR_d, eI_s, eI_d, eI_e, eR_s, eR_d, eR_e, eL_s, eL_d, bs_bump, cc_bump, cs_bump, sh_bump, gI_bump, gR_bump, eI_bump, eR_bump, eL_bump, l_0, l_1, l_2, l_3, l_4, l_5, l_6, l_7, l_8, l_9, l_10, l_11, l_12, l_13, l_14, l_15, l_16, l_17, l_18, l_19, l_20, l_21, l_22, l_23, l_24, l_25, l_26, l_27, l_28, l_29, l_30, l_31, l_32, l_33, l_34, l_35, l_36, l_37, l_38, l_39, l_40, l_41, l_42, l_43, l_44, l_45, l_46, l_47, l_48, l_49, l_50, l_51, l_52, l_53, l_54, l_55, l_56, l_57, l_58, l_59, l_60, l_61, l_62, l_63, l_64, l_65, l_66, l_67, l_68, l_69, l_70, l_71, l_72, l_73, l_74, l_75, l_76, l_77, l_78, l_79, l_80, l_81, l_82, l_83, l_84, l_85, l_86, l_87, l_88, l_89, l_90, l_91, l_92, l_93, l_94, l_95, l_96, l_97, l_98, l_99, l_100, l_101, l_102, l_103, l_104, l_105, l_106, l_107, l_108, l_109, l_110, l_111, l_112, l_113, l_114, l_115, l_116, l_117, l_118, l_119, l_120, l_121, l_122, l_123, l_124, l_125, l_126, l_127, l_128, l_129, l_130, l_256, l_512, l_676, l_704, l_999, l_1000, l_4096, l_17576, l_32768, l_65535, l_456975, l_456976, l_m1, l_m2, in_iff, eq_m1, m1_eq, m1_lt, m1_le, le_m1, lt_m1, eq_m2, m2_m1, m1_m2, add_m1, m1_add, sub_n, mul_n, add_n, bo_n0, bo_n1, ch_n, lt_n, le_n, eq_n, ix_n, i2c_n, rem_n, div_n, kI_i, kI_x, kV_v, kV_x, kR_r, kR_n, kR_x, kHI_i, kHI_0, kHI_1, kHV_v, kHV_0, kHV_1, va_s, va_n, exists_eq_left', exists_eq_left, forall_eq, forall_eq', and_true, true_and, and_self, Option.some.injEq, Prod.mk.injEq, if_tt, if_ff, reduceIte, reduceCtorEq, not_true_eq_false, not_false_eq_true, Nat.reduceAdd, Nat.reduceMul, Nat.reduceSub, Nat.reduceLT, Nat.reduceLeDiff, Nat.reduceEqDiff, false_implies, true_implies, implies_true, a1, a10]
    rw [if_pos (by omega)]
    refine ⟨h.1, c_Text_addA (c := 10) h (by decide) (fun σ1 g1 f1 => ?_)⟩
    have hf1 := hf.tr f1
    obtain ⟨b1, -, -, b4, b5, -⟩ := keep σ1 hf1
    simp (disch := omega) only [bs_pI, cc_pI, cs_pI, sh_pI, gR_pI, eI_pI, eR_pI, eL_pI, bs_pR, cc_pR, cs_pR, sh_pR, gI_pR, eI_pR, eR_pR, eL_pR, bs_uI, cc_uI, cs_uI, sh_uI, gI_uI, gR_uI, eR_uI, eL_uI, bs_uR, cc_uR, cs_uR, sh_uR, gI_uR, gR_uR, eI_uR, eL_uR, bs_uL, cc_uL, cs_uL, sh_uL, gI_uL, gR_uL, eI_uL, eR_uL, gI_s, gI_d, gR_s, gR_d, eI_s, eI_d, eI_e, eR_s, eR_d, eR_e, eL_s, eL_d, bs_bump, cc_bump, cs_bump, sh_bump, gI_bump, gR_bump, eI_bump, eR_bump, eL_bump, l_0, l_1, l_2, l_3, l_4, l_5, l_6, l_7, l_8, l_9, l_10, l_11, l_12, l_13, l_14, l_15, l_16, l_17, l_18, l_19, l_20, l_21, l_22, l_23, l_24, l_25, l_26, l_27, l_28, l_29, l_30, l_31, l_32, l_33, l_34, l_35, l_36, l_37, l_38, l_39, l_40, l_41, l_42, l_43, l_44, l_45, l_46, l_47, l_48, l_49, l_50, l_51, l_52, l_53, l_54, l_55, l_56, l_57, l_58, l_59, l_60, l_61, l_62, l_63, l_64, l_65, l_66, l_67, l_68, l_69, l_70, l_71, l_72, l_73, l_74, l_75, l_76, l_77, l_78, l_79, l_80, l_81, l_82, l_83, l_84, l_85, l_86, l_87, l_88, l_89, l_90, l_91, l_92, l_93, l_94, l_95, l_96, l_97, l_98, l_99, l_100, l_101, l_102, l_103, l_104, l_105, l_106, l_107, l_108, l_109, l_110, l_111, l_112, l_113, l_114, l_115, l_116, l_117, l_118, l_119, l_120, l_121, l_122, l_123, l_124, l_125, l_126, l_127, l_128, l_129, l_130, l_256, l_512, l_676, l_704, l_999, l_1000, l_4096, l_17576, l_32768, l_65535, l_456975, l_456976, l_m1, l_m2, in_iff, eq_m1, m1_eq, m1_lt, m1_le, le_m1, lt_m1, eq_m2, m2_m1, m1_m2, add_m1, m1_add, sub_n, mul_n, add_n, bo_n0, bo_n1, ch_n, lt_n, le_n, eq_n, ix_n, i2c_n, rem_n, div_n, kI_i, kI_x, kV_v, kV_x, kR_r, kR_n, kR_x, kHI_i, kHI_0, kHI_1, kHV_v, kHV_0, kHV_1, va_s, va_n, exists_eq_left', exists_eq_left, forall_eq, forall_eq', and_true, true_and, and_self, Option.some.injEq, Prod.mk.injEq, if_tt, if_ff, reduceIte, reduceCtorEq, not_true_eq_false, not_false_eq_true, Nat.reduceAdd, Nat.reduceMul, Nat.reduceSub, Nat.reduceLT, Nat.reduceLeDiff, Nat.reduceEqDiff, false_implies, true_implies, implies_true, b1, b4]
    refine ⟨g1.1, c_Text_addFrom (o := a + 2) (ys := m.2.2.1) (i := 0) (by omega) g1 b5 (by omega) (fun σ2 g2 f2 => ?_)⟩
    have hf2 := hf1.tr f2
    obtain ⟨c1, -, -, c4, c5, -⟩ := keep σ2 hf2
    rw [addL_addL, List.drop_zero] at g2
    have hl := c5.2.2.2.2.1
    simp (disch := omega) only [bs_pI, cc_pI, cs_pI, sh_pI, gR_pI, eI_pI, eR_pI, eL_pI, bs_pR, cc_pR, cs_pR, sh_pR, gI_pR, eI_pR, eR_pR, eL_pR, bs_uI, cc_uI, cs_uI, sh_uI, gI_uI, gR_uI, eR_uI, eL_uI, bs_uR, cc_uR, cs_uR, sh_uR, gI_uR, gR_uR, eI_uR, eL_uR, bs_uL, cc_uL, cs_uL, sh_uL, gI_uL, gR_uL, eI_uL, eR_uL, gI_s, gI_d, gR_s, gR_d, eI_s, eI_d, eI_e, eR_s, eR_d, eR_e, eL_s, eL_d, bs_bump, cc_bump, cs_bump, sh_bump, gI_bump, gR_bump, eI_bump, eR_bump, eL_bump, l_0, l_1, l_2, l_3, l_4, l_5, l_6, l_7, l_8, l_9, l_10, l_11, l_12, l_13, l_14, l_15, l_16, l_17, l_18, l_19, l_20, l_21, l_22, l_23, l_24, l_25, l_26, l_27, l_28, l_29, l_30, l_31, l_32, l_33, l_34, l_35, l_36, l_37, l_38, l_39, l_40, l_41, l_42, l_43, l_44, l_45, l_46, l_47, l_48, l_49, l_50, l_51, l_52, l_53, l_54, l_55, l_56, l_57, l_58, l_59, l_60, l_61, l_62, l_63, l_64, l_65, l_66, l_67, l_68, l_69, l_70, l_71, l_72, l_73, l_74, l_75, l_76, l_77, l_78, l_79, l_80, l_81, l_82, l_83, l_84, l_85, l_86, l_87, l_88, l_89, l_90, l_91, l_92, l_93, l_94, l_95, l_96, l_97, l_98, l_99, l_100, l_101, l_102, l_103, l_104, l_105, l_106, l_107, l_108, l_109, l_110, l_111, l_112, l_113, l_114, l_115, l_116, l_117, l_118, l_119, l_120, l_121, l_122, l_123, l_124, l_125, l_126, l_127, l_128, l_129, l_130, l_256, l_512, l_676, l_704, l_999, l_1000, l_4096, l_17576, l_32768, l_65535, l_456975, l_456976, l_m1, l_m2, in_iff, eq_m1, m1_eq, m1_lt, m1_le, le_m1, lt_m1, eq_m2, m2_m1, m1_m2, add_m1, m1_add, sub_n, mul_n, add_n, bo_n0, bo_n1, ch_n, lt_n, le_n, eq_n, ix_n, i2c_n, rem_n, div_n, kI_i, kI_x, kV_v, kV_x, kR_r, kR_n, kR_x, kHI_i, kHI_0, kHI_1, kHV_v, kHV_0, kHV_1, va_s, va_n, exists_eq_left', exists_eq_left, forall_eq, forall_eq', and_true, true_and, and_self, Option.some.injEq, Prod.mk.injEq, if_tt, if_ff, reduceIte, reduceCtorEq, not_true_eq_false, not_false_eq_true, Nat.reduceAdd, Nat.reduceMul, Nat.reduceSub, Nat.reduceLT, Nat.reduceLeDiff, Nat.reduceEqDiff, false_implies, true_implies, implies_true, c1, c4, c5.1, c5.2.2.2.1]
    by_cases h0 : m.2.2.1.length ≤ 0
    · rw [if_pos h0]
      have hz : m.2.2.1 = [] := List.eq_nil_of_length_eq_zero (by omega)
      refine writeOn_end (fun σ' q1 q2 => hk σ' ?_ q2) g2 hf2
      unfold tBody
      rw [if_neg (fun q => q.1 hz)]
      exact q1
    · rw [if_neg h0]
      refine c_Text_at c5 (by omega) ?_
      have hlt := getD_lt c5.2.2.2.2.2.2.2 (m.2.2.1.length - 1)
      simp (disch := omega) only [bs_pI, cc_pI, cs_pI, sh_pI, gR_pI, eI_pI, eR_pI, eL_pI, bs_pR, cc_pR, cs_pR, sh_pR, gI_pR, eI_pR, eR_pR, eL_pR, bs_uI, cc_uI, cs_uI, sh_uI, gI_uI, gR_uI, eR_uI, eL_uI, bs_uR, cc_uR, cs_uR, sh_uR, gI_uR, gR_uR, eI_uR, eL_uR, bs_uL, cc_uL, cs_uL, sh_uL, gI_uL, gR_uL, eI_uL, eR_uL, gI_s, gI_d, gR_s, gR_d, eI_s, eI_d, eI_e, eR_s, eR_d, eR_e, eL_s, eL_d, bs_bump, cc_bump, cs_bump, sh_bump, gI_bump, gR_bump, eI_bump, eR_bump, eL_bump, l_0, l_1, l_2, l_3, l_4, l_5, l_6, l_7, l_8, l_9, l_10, l_11, l_12, l_13, l_14, l_15, l_16, l_17, l_18, l_19, l_20, l_21, l_22, l_23, l_24, l_25, l_26, l_27, l_28, l_29, l_30, l_31, l_32, l_33, l_34, l_35, l_36, l_37, l_38, l_39, l_40, l_41, l_42, l_43, l_44, l_45, l_46, l_47, l_48, l_49, l_50, l_51, l_52, l_53, l_54, l_55, l_56, l_57, l_58, l_59, l_60, l_61, l_62, l_63, l_64, l_65, l_66, l_67, l_68, l_69, l_70, l_71, l_72, l_73, l_74, l_75, l_76, l_77, l_78, l_79, l_80, l_81, l_82, l_83, l_84, l_85, l_86, l_87, l_88, l_89, l_90, l_91, l_92, l_93, l_94, l_95, l_96, l_97, l_98, l_99, l_100, l_101, l_102, l_103, l_104, l_105, l_106, l_107, l_108, l_109, l_110, l_111, l_112, l_113, l_114, l_115, l_116, l_117, l_118, l_119, l_120, l_121, l_122, l_123, l_124, l_125, l_126, l_127, l_128, l_129, l_130, l_256, l_512, l_676, l_704, l_999, l_1000, l_4096, l_17576, l_32768, l_65535, l_456975, l_456976, l_m1, l_m2, in_iff, eq_m1, m1_eq, m1_lt, m1_le, le_m1, lt_m1, eq_m2, m2_m1, m1_m2, add_m1, m1_add, sub_n, mul_n, add_n, bo_n0, bo_n1, ch_n, lt_n, le_n, eq_n, ix_n, i2c_n, rem_n, div_n, kI_i, kI_x, kV_v, kV_x, kR_r, kR_n, kR_x, kHI_i, kHI_0, kHI_1, kHV_v, kHV_0, kHV_1, va_s, va_n, exists_eq_left', exists_eq_left, forall_eq, forall_eq', and_true, true_and, and_self, Option.some.injEq, Prod.mk.injEq, if_tt, if_ff, reduceIte, reduceCtorEq, not_true_eq_false, not_false_eq_true, Nat.reduceAdd, Nat.reduceMul, Nat.reduceSub, Nat.reduceLT, Nat.reduceLeDiff, Nat.reduceEqDiff, false_implies, true_implies, implies_true]
      by_cases h10 : m.2.2.1.getD (m.2.2.1.length - 1) 0 = 10
      · rw [if_pos h10]
        refine writeOn_end (fun σ' q1 q2 => hk σ' ?_ q2) g2 hf2
        unfold tBody
        rw [if_neg (fun q => q.2 h10)]
        exact q1
      · rw [if_neg h10]
        refine ⟨g2.1, c_Text_addA (c := 10) g2 (by decide) (fun σ3 g3 f3 => ?_)⟩
        simp only [kV_v]
        refine writeOn_end (fun σ' q1 q2 => hk σ' ?_ q2) g3 (hf2.tr f3)
        unfold tBody
        rw [if_pos ⟨fun q => h0 (by rw [q]; simp), h10⟩, ← List.append_assoc]
        exact q1
  | succ n ih =>
    intro i σ hi h hf
    obtain ⟨a1, a2, a3, a4, a5, a6, a7, a8, a9, a10, a11, a12, a13, a14, a15⟩ := keep σ hf
    refine e_Message_writeOn_46 a t _ ?_
    simp (disch := omega) only [bs_pI, cc_pI, cs_pI, sh_pI, gR_pI, eI_pI, eR_pI, eL_pI, bs_pR, cc_pR, cs_pR, sh_pR, gI_pR, eI_pR, eR_pR, eL_pR, bs_uI, cc_uI, cs_uI, sh_uI, gI_uI, gR_uI, eR_uI, eL_uI, bs_uR, cc_uR, cs_uR, sh_uR, gI_uR, gR_uR, eI_uR, eL_uR, bs_uL, cc_uL, cs_uL, sh_uL, gI_uL, gR_uL, eI_uL, eR_uL, gI_s, gI_d, gR_s, gR_d, eI_s, eI_d, eI_e, eR_s, eR_d, eR_e, eL_s, eL_d, bs_bump, cc_bump, cs_bump, sh_bump, gI_bump, gR_bump, eI_bump, eR_bump, eL_bump, l_0, l_1, l_2, l_3, l_4, l_5, l_6, l_7, l_8, l_9, l_10, l_11, l_12, l_13, l_14, l_15, l_16, l_17, l_18, l_19, l_20, l_21, l_22, l_23, l_24, l_25, l_26, l_27, l_28, l_29, l_30, l_31, l_32, l_33, l_34, l_35, l_36, l_37, l_38, l_39, l_40, l_41, l_42, l_43, l_44, l_45, l_46, l_47, l_48, l_49, l_50, l_51, l_52, l_53, l_54, l_55, l_56, l_57, l_58, l_59, l_60, l_61, l_62, l_63, l_64, l_65, l_66, l_67, l_68, l_69, l_70, l_71, l_72, l_73, l_74, l_75, l_76, l_77, l_78, l_79, l_80, l_81, l_82, l_83, l_84, l_85, l_86, l_87, l_88, l_89, l_90, l_91, l_92, l_93, l_94, l_95, l_96, l_97, l_98, l_99, l_100, l_101, l_102, l_103, l_104, l_105, l_106, l_107, l_108, l_109, l_110, l_111, l_112, l_113, l_114, l_115, l_116, l_117, l_118, l_119, l_120, l_121, l_122, l_123, l_124, l_125, l_126, l_127, l_128, l_129, l_130, l_256, l_512, l_676, l_704, l_999, l_1000, l_4096, l_17576, l_32768, l_65535, l_456975, l_456976, l_m1, l_m2, in_iff, eq_m1, m1_eq, m1_lt, m1_le, le_m1, lt_m1, eq_m2, m2_m1, m1_m2, add_m1, m1_add, sub_n, mul_n, add_n, bo_n0, bo_n1, ch_n, lt_n, le_n, eq_n, ix_n, i2c_n, rem_n, div_n, kI_i, kI_x, kV_v, kV_x, kR_r, kR_n, kR_x, kHI_i, kHI_0, kHI_1, kHV_v, kHV_0, kHV_1, va_s, va_n, exists_eq_left', exists_eq_left, forall_eq, forall_eq', and_true, true_and, and_self, Option.some.injEq, Prod.mk.injEq, if_tt, if_ff, reduceIte, reduceCtorEq, not_true_eq_false, not_false_eq_true, Nat.reduceAdd, Nat.reduceMul, Nat.reduceSub, Nat.reduceLT, Nat.reduceLeDiff, Nat.reduceEqDiff, false_implies, true_implies, implies_true, a1, a10]
    rw [if_neg (by omega)]
    refine ⟨h.1, c_Text_addA (c := 32) h (by decide) (fun σ1 g1 f1 => ?_)⟩
    have hf1 := hf.tr f1
    obtain ⟨b1, b2, b3, -, -, -, -, -, -, -, b11, b12, b13, -⟩ := keep σ1 hf1
    simp (disch := omega) only [bs_pI, cc_pI, cs_pI, sh_pI, gR_pI, eI_pI, eR_pI, eL_pI, bs_pR, cc_pR, cs_pR, sh_pR, gI_pR, eI_pR, eR_pR, eL_pR, bs_uI, cc_uI, cs_uI, sh_uI, gI_uI, gR_uI, eR_uI, eL_uI, bs_uR, cc_uR, cs_uR, sh_uR, gI_uR, gR_uR, eI_uR, eL_uR, bs_uL, cc_uL, cs_uL, sh_uL, gI_uL, gR_uL, eI_uL, eR_uL, gI_s, gI_d, gR_s, gR_d, eI_s, eI_d, eI_e, eR_s, eR_d, eR_e, eL_s, eL_d, bs_bump, cc_bump, cs_bump, sh_bump, gI_bump, gR_bump, eI_bump, eR_bump, eL_bump, l_0, l_1, l_2, l_3, l_4, l_5, l_6, l_7, l_8, l_9, l_10, l_11, l_12, l_13, l_14, l_15, l_16, l_17, l_18, l_19, l_20, l_21, l_22, l_23, l_24, l_25, l_26, l_27, l_28, l_29, l_30, l_31, l_32, l_33, l_34, l_35, l_36, l_37, l_38, l_39, l_40, l_41, l_42, l_43, l_44, l_45, l_46, l_47, l_48, l_49, l_50, l_51, l_52, l_53, l_54, l_55, l_56, l_57, l_58, l_59, l_60, l_61, l_62, l_63, l_64, l_65, l_66, l_67, l_68, l_69, l_70, l_71, l_72, l_73, l_74, l_75, l_76, l_77, l_78, l_79, l_80, l_81, l_82, l_83, l_84, l_85, l_86, l_87, l_88, l_89, l_90, l_91, l_92, l_93, l_94, l_95, l_96, l_97, l_98, l_99, l_100, l_101, l_102, l_103, l_104, l_105, l_106, l_107, l_108, l_109, l_110, l_111, l_112, l_113, l_114, l_115, l_116, l_117, l_118, l_119, l_120, l_121, l_122, l_123, l_124, l_125, l_126, l_127, l_128, l_129, l_130, l_256, l_512, l_676, l_704, l_999, l_1000, l_4096, l_17576, l_32768, l_65535, l_456975, l_456976, l_m1, l_m2, in_iff, eq_m1, m1_eq, m1_lt, m1_le, le_m1, lt_m1, eq_m2, m2_m1, m1_m2, add_m1, m1_add, sub_n, mul_n, add_n, bo_n0, bo_n1, ch_n, lt_n, le_n, eq_n, ix_n, i2c_n, rem_n, div_n, kI_i, kI_x, kV_v, kV_x, kR_r, kR_n, kR_x, kHI_i, kHI_0, kHI_1, kHV_v, kHV_0, kHV_1, va_s, va_n, exists_eq_left', exists_eq_left, forall_eq, forall_eq', and_true, true_and, and_self, Option.some.injEq, Prod.mk.injEq, if_tt, if_ff, reduceIte, reduceCtorEq, not_true_eq_false, not_false_eq_true, Nat.reduceAdd, Nat.reduceMul, Nat.reduceSub, Nat.reduceLT, Nat.reduceLeDiff, Nat.reduceEqDiff, false_implies, true_implies, implies_true, b1, b2, b3]
    rw [b12 i (by omega)]
    refine ⟨by omega, g1.1, c_Text_addIndicator g1 (b13 _ (getD_mem (by omega))) (fun σ2 g2 f2 => ?_)⟩
    simp only [kV_v]
    refine ih (i + 1) σ2 (by omega) ?_ (hf1.tr f2)
    rw [addL_addL] at g2
    have e : tInd (m.2.1.take (i + 1)) = tInd (m.2.1.take i) ++ [32] ++ let4 (m.2.1.getD i 0) := by
      unfold tInd
      rw [List.take_add_one, List.getElem?_eq_getElem (by omega), List.getD_eq_getElem?_getD, List.getElem?_eq_getElem (by omega), List.flatMap_append]
      simp
    rw [e]
    simpa [List.append_assoc] using g2
theorem c_Message_writeOn {n : Nat} {ag : Bool} (hta : a + 5 ≤ t ∨ t + 1 < a) (hm : ME σ a m) (h : TX σ t 68 xs) (hn : n < 1000) (hk : ∀ σ', TX σ' t 68 (tape m n ag) → Fr (tP t) σ σ' → K (.inl none) σ') : PW (d + 2) M_Message_writeOn 0 [.ref a, .ref t, .int (nI n), .int (nI ag.toNat), uu] [] σ K := by
  have hl := @tape_len m n ag hm.2.2.2.2.2.2.2.2.2.2.2.2.2.2
  have hk' : ∀ σ', TX σ' t 68 (addL 68 [] (tHead m n ag ++ tInd m.2.1 ++ [10] ++ tBody m.2.2.1 ++ [78, 78, 78, 78, 10])) → Fr (tP t) σ σ' → K (.inl none) σ' := by
    intro σ' q1 q2
    refine hk σ' ?_ q2
    rw [show addL 68 [] (tHead m n ag ++ tInd m.2.1 ++ [10] ++ tBody m.2.2.1 ++ [78, 78, 78, 78, 10]) = tape m n ag from by
      show (tape m n ag).take 68 = _
      exact List.take_of_length_le hl] at q1
    exact q1
  refine e_Message_writeOn_0 a t _ _ ⟨h.1, c_Text_clear h (fun σ1 g1 f1 => ⟨g1.1, ?_⟩)⟩
  have g1' : TX σ1 t 68 (addL 68 [] []) := g1
  refine c_Text_addNumber g1' (by omega) (fun σ2 g2 f2 => ⟨g2.1, ?_⟩)
  rw [addL_addL] at g2
  refine c_Text_addA (c := 32) g2 (by decide) (fun σ3 g3 f3 => ?_)
  simp only [kV_v]
  have f13 := (f1.tr f2).tr f3
  have fin : ∀ σ4 ys, TX σ4 t 68 (addL 68 [] ys) → Fr (tP t) σ σ4 → tHead m n ag = ys ++ [48 + m.1] → PW (d + 2) M_Message_writeOn 31 [.ref a, .ref t, uu, uu, uu] [] σ4 K := by
    intro σ4 ys g4 f4 e
    have hm4 := hm.ag (fun q h1 h2 => f4.ag (by unfold tP; omega))
    have hb := hm4.2.2.2.2.2.2.2.2.1
    refine e_Message_writeOn_31 a t ?_
    simp (disch := omega) only [bs_pI, cc_pI, cs_pI, sh_pI, gR_pI, eI_pI, eR_pI, eL_pI, bs_pR, cc_pR, cs_pR, sh_pR, gI_pR, eI_pR, eR_pR, eL_pR, bs_uI, cc_uI, cs_uI, sh_uI, gI_uI, gR_uI, eR_uI, eL_uI, bs_uR, cc_uR, cs_uR, sh_uR, gI_uR, gR_uR, eI_uR, eL_uR, bs_uL, cc_uL, cs_uL, sh_uL, gI_uL, gR_uL, eI_uL, eR_uL, gI_s, gI_d, gR_s, gR_d, eI_s, eI_d, eI_e, eR_s, eR_d, eR_e, eL_s, eL_d, bs_bump, cc_bump, cs_bump, sh_bump, gI_bump, gR_bump, eI_bump, eR_bump, eL_bump, l_0, l_1, l_2, l_3, l_4, l_5, l_6, l_7, l_8, l_9, l_10, l_11, l_12, l_13, l_14, l_15, l_16, l_17, l_18, l_19, l_20, l_21, l_22, l_23, l_24, l_25, l_26, l_27, l_28, l_29, l_30, l_31, l_32, l_33, l_34, l_35, l_36, l_37, l_38, l_39, l_40, l_41, l_42, l_43, l_44, l_45, l_46, l_47, l_48, l_49, l_50, l_51, l_52, l_53, l_54, l_55, l_56, l_57, l_58, l_59, l_60, l_61, l_62, l_63, l_64, l_65, l_66, l_67, l_68, l_69, l_70, l_71, l_72, l_73, l_74, l_75, l_76, l_77, l_78, l_79, l_80, l_81, l_82, l_83, l_84, l_85, l_86, l_87, l_88, l_89, l_90, l_91, l_92, l_93, l_94, l_95, l_96, l_97, l_98, l_99, l_100, l_101, l_102, l_103, l_104, l_105, l_106, l_107, l_108, l_109, l_110, l_111, l_112, l_113, l_114, l_115, l_116, l_117, l_118, l_119, l_120, l_121, l_122, l_123, l_124, l_125, l_126, l_127, l_128, l_129, l_130, l_256, l_512, l_676, l_704, l_999, l_1000, l_4096, l_17576, l_32768, l_65535, l_456975, l_456976, l_m1, l_m2, in_iff, eq_m1, m1_eq, m1_lt, m1_le, le_m1, lt_m1, eq_m2, m2_m1, m1_m2, add_m1, m1_add, sub_n, mul_n, add_n, bo_n0, bo_n1, ch_n, lt_n, le_n, eq_n, ix_n, i2c_n, rem_n, div_n, kI_i, kI_x, kV_v, kV_x, kR_r, kR_n, kR_x, kHI_i, kHI_0, kHI_1, kHV_v, kHV_0, kHV_1, va_s, va_n, exists_eq_left', exists_eq_left, forall_eq, forall_eq', and_true, true_and, and_self, Option.some.injEq, Prod.mk.injEq, if_tt, if_ff, reduceIte, reduceCtorEq, not_true_eq_false, not_false_eq_true, Nat.reduceAdd, Nat.reduceMul, Nat.reduceSub, Nat.reduceLT, Nat.reduceLeDiff, Nat.reduceEqDiff, false_implies, true_implies, implies_true, hm4.1, hm4.2.2.2.2.2.2.2.1]
    refine ⟨g4.1, c_Text_addA g4 (by omega) (fun σ5 g5 f5 => ?_)⟩
    simp only [kV_v]
    rw [← e] at g5
    exact writeOn_46 hta hm hk' m.2.1.length 0 σ5 (by omega) (by simpa [tInd] using g5) (f4.tr f5)
  cases ag with
  | false =>
    rw [if_pos (by decide)]
    exact fin σ3 _ g3 f13 (by simp [tHead])
  | true =>
    rw [if_neg (by decide)]
    refine ⟨g3.1, c_Text_addA (c := 82) g3 (by decide) (fun σ4 g4 f4 => ⟨g4.1, ?_⟩)⟩
    refine c_Text_addA (c := 32) g4 (by decide) (fun σ5 g5 f5 => ?_)
    simp only [kV_v]
    exact fin σ5 _ g5 ((f13.tr f4).tr f5) (by simp [tHead])
theorem fill_22 {h : Nat} {σ0 : PH} {p : Nat} {is : List Nat} (hp : p ≤ 4) (hta : a + 5 ≤ t ∨ t + 1 < a) (hah : a + 5 ≤ h ∨ h + 1 < a) (hd : HD σ0 h) (hks : HK σ0 h is) (g4 : gI σ0 644 h = nI (fle xs)) (hx : TX σ0 t cap xs) (hcap : cap < 900) (hisb : ∀ k ∈ is, k < 456976) (hfit : 5 * is.length + (xs.drop (fle xs + 1)).length ≤ 54) (hm : ME σ0 a ms0) (hk : ∀ σ', ME σ' a (p, is, xs.drop (fle xs + 1), fun _ => 0) → Fr (mP a) σ0 σ' → K (.inl none) σ') : ∀ (n i : Nat) (σ : PH), i + n = is.length → Fr (mP a) σ0 σ → (∀ f, gR σ f a = gR σ0 f a) → gI σ 384 a = nI p → gI σ 386 a = nI is.length → (∀ j, j < i → eI σ (a + 1) j = nI (is.getD j 0)) → Ag σ0 σ (a + 2) → Ag σ0 σ (a + 3) → Ag σ0 σ (a + 4) → PW (d + 2) M_Message_fill 22 [.ref a, .ref h, .ref t, .int (nI i)] [] σ K := by
  have hl := hks.2.1
  obtain ⟨a1, a2, a3, a4, a5, a6, a7, a8, a9, a10, a11, a12, a13, a14, a15⟩ := hm
  intro n
  induction n with
  | zero =>
    intro i σ hi hf hgR p1 p2 p3 q2 q3 q4
    have hh := hf.ag (q := h) (by unfold mP; omega)
    have hx' := hx.ag (hf.ag (q := t) (by unfold mP; omega)) (hf.ag (q := t + 1) (by unfold mP; omega))
    have hle := (fle_spec xs).1
    have hle2 := hx.2.2.2.2.1
    have hle3 := hx.2.2.2.2.2.1
    refine e_Message_fill_22 a h t _ ?_
    simp (disch := omega) only [bs_pI, cc_pI, cs_pI, sh_pI, gR_pI, eI_pI, eR_pI, eL_pI, bs_pR, cc_pR, cs_pR, sh_pR, gI_pR, eI_pR, eR_pR, eL_pR, bs_uI, cc_uI, cs_uI, sh_uI, gI_uI, gR_uI, eR_uI, eL_uI, bs_uR, cc_uR, cs_uR, sh_uR, gI_uR, gR_uR, eI_uR, eL_uR, bs_uL, cc_uL, cs_uL, sh_uL, gI_uL, gR_uL, eI_uL, eR_uL, gI_s, gI_d, gR_s, gR_d, eI_s, eI_d, eI_e, eR_s, eR_d, eR_e, eL_s, eL_d, bs_bump, cc_bump, cs_bump, sh_bump, gI_bump, gR_bump, eI_bump, eR_bump, eL_bump, l_0, l_1, l_2, l_3, l_4, l_5, l_6, l_7, l_8, l_9, l_10, l_11, l_12, l_13, l_14, l_15, l_16, l_17, l_18, l_19, l_20, l_21, l_22, l_23, l_24, l_25, l_26, l_27, l_28, l_29, l_30, l_31, l_32, l_33, l_34, l_35, l_36, l_37, l_38, l_39, l_40, l_41, l_42, l_43, l_44, l_45, l_46, l_47, l_48, l_49, l_50, l_51, l_52, l_53, l_54, l_55, l_56, l_57, l_58, l_59, l_60, l_61, l_62, l_63, l_64, l_65, l_66, l_67, l_68, l_69, l_70, l_71, l_72, l_73, l_74, l_75, l_76, l_77, l_78, l_79, l_80, l_81, l_82, l_83, l_84, l_85, l_86, l_87, l_88, l_89, l_90, l_91, l_92, l_93, l_94, l_95, l_96, l_97, l_98, l_99, l_100, l_101, l_102, l_103, l_104, l_105, l_106, l_107, l_108, l_109, l_110, l_111, l_112, l_113, l_114, l_115, l_116, l_117, l_118, l_119, l_120, l_121, l_122, l_123, l_124, l_125, l_126, l_127, l_128, l_129, l_130, l_256, l_512, l_676, l_704, l_999, l_1000, l_4096, l_17576, l_32768, l_65535, l_456975, l_456976, l_m1, l_m2, in_iff, eq_m1, m1_eq, m1_lt, m1_le, le_m1, lt_m1, eq_m2, m2_m1, m1_m2, add_m1, m1_add, sub_n, mul_n, add_n, bo_n0, bo_n1, ch_n, lt_n, le_n, eq_n, ix_n, i2c_n, rem_n, div_n, kI_i, kI_x, kV_v, kV_x, kR_r, kR_n, kR_x, kHI_i, kHI_0, kHI_1, kHV_v, kHV_0, kHV_1, va_s, va_n, exists_eq_left', exists_eq_left, forall_eq, forall_eq', and_true, true_and, and_self, Option.some.injEq, Prod.mk.injEq, if_tt, if_ff, reduceIte, reduceCtorEq, not_true_eq_false, not_false_eq_true, Nat.reduceAdd, Nat.reduceMul, Nat.reduceSub, Nat.reduceLT, Nat.reduceLeDiff, Nat.reduceEqDiff, false_implies, true_implies, implies_true, hf.sh, a1, p2, hgR, a4]
    rw [if_pos (by omega)]
    refine ⟨hd.1, e_Header_bodyStart_0 h ?_⟩
    simp (disch := omega) only [bs_pI, cc_pI, cs_pI, sh_pI, gR_pI, eI_pI, eR_pI, eL_pI, bs_pR, cc_pR, cs_pR, sh_pR, gI_pR, eI_pR, eR_pR, eL_pR, bs_uI, cc_uI, cs_uI, sh_uI, gI_uI, gR_uI, eR_uI, eL_uI, bs_uR, cc_uR, cs_uR, sh_uR, gI_uR, gR_uR, eI_uR, eL_uR, bs_uL, cc_uL, cs_uL, sh_uL, gI_uL, gR_uL, eI_uL, eR_uL, gI_s, gI_d, gR_s, gR_d, eI_s, eI_d, eI_e, eR_s, eR_d, eR_e, eL_s, eL_d, bs_bump, cc_bump, cs_bump, sh_bump, gI_bump, gR_bump, eI_bump, eR_bump, eL_bump, l_0, l_1, l_2, l_3, l_4, l_5, l_6, l_7, l_8, l_9, l_10, l_11, l_12, l_13, l_14, l_15, l_16, l_17, l_18, l_19, l_20, l_21, l_22, l_23, l_24, l_25, l_26, l_27, l_28, l_29, l_30, l_31, l_32, l_33, l_34, l_35, l_36, l_37, l_38, l_39, l_40, l_41, l_42, l_43, l_44, l_45, l_46, l_47, l_48, l_49, l_50, l_51, l_52, l_53, l_54, l_55, l_56, l_57, l_58, l_59, l_60, l_61, l_62, l_63, l_64, l_65, l_66, l_67, l_68, l_69, l_70, l_71, l_72, l_73, l_74, l_75, l_76, l_77, l_78, l_79, l_80, l_81, l_82, l_83, l_84, l_85, l_86, l_87, l_88, l_89, l_90, l_91, l_92, l_93, l_94, l_95, l_96, l_97, l_98, l_99, l_100, l_101, l_102, l_103, l_104, l_105, l_106, l_107, l_108, l_109, l_110, l_111, l_112, l_113, l_114, l_115, l_116, l_117, l_118, l_119, l_120, l_121, l_122, l_123, l_124, l_125, l_126, l_127, l_128, l_129, l_130, l_256, l_512, l_676, l_704, l_999, l_1000, l_4096, l_17576, l_32768, l_65535, l_456975, l_456976, l_m1, l_m2, in_iff, eq_m1, m1_eq, m1_lt, m1_le, le_m1, lt_m1, eq_m2, m2_m1, m1_m2, add_m1, m1_add, sub_n, mul_n, add_n, bo_n0, bo_n1, ch_n, lt_n, le_n, eq_n, ix_n, i2c_n, rem_n, div_n, kI_i, kI_x, kV_v, kV_x, kR_r, kR_n, kR_x, kHI_i, kHI_0, kHI_1, kHV_v, kHV_0, kHV_1, va_s, va_n, exists_eq_left', exists_eq_left, forall_eq, forall_eq', and_true, true_and, and_self, Option.some.injEq, Prod.mk.injEq, if_tt, if_ff, reduceIte, reduceCtorEq, not_true_eq_false, not_false_eq_true, Nat.reduceAdd, Nat.reduceMul, Nat.reduceSub, Nat.reduceLT, Nat.reduceLeDiff, Nat.reduceEqDiff, false_implies, true_implies, implies_true, hf.sh, hd.1, hh.2.1, g4]
    have b5 := a5.ag q2 q3
    refine ⟨a5.1, c_Text_addFrom (cap2 := cap) (ys := xs) (by omega) b5 hx' (by omega) (fun σ2 g2 f2 => ?_)⟩
    simp only [kV_v]
    have e : addL 60 ms0.2.2.1 (xs.drop (fle xs + 1)) = xs.drop (fle xs + 1) := List.take_of_length_le (by show (List.drop _ xs).length ≤ 60; omega)
    rw [e] at g2
    have fa := f2.ag (q := a) (by unfold tP; omega)
    have fa1 := f2.ag (q := a + 1) (by unfold tP; omega)
    have fa4 := f2.ag (q := a + 4) (by unfold tP; omega)
    refine hk σ2 ⟨by rw [fa.1, hf.sh]; exact a1, by rw [fa.2.2.1, hgR]; exact a2, by rw [fa1.1, hf.sh]; exact a3, by rw [fa.2.2.1, hgR]; exact a4, g2, by rw [fa.2.2.1, hgR]; exact a6, by rw [fa4.1, hf.sh]; exact a7, by rw [fa.2.1]; exact p1, hp, by rw [fa.2.1]; exact p2, hl, fun j hj => ?_, hisb, fun c hc => ?_, hfit⟩ (hf.tr (f2.mo (fun q hq => by unfold tP at hq; unfold mP; omega)))
    · have hj' : j < is.length := hj
      rw [fa1.2.2.2.1]; exact p3 j (by omega)
    · rw [fa4.2.2.2.1, q4.2.2.2.1]; exact a14 c hc
  | succ n ih =>
    intro i σ hi hf hgR p1 p2 p3 q2 q3 q4
    have hh := hf.ag (q := h) (by unfold mP; omega)
    have hh1 := hf.ag (q := h + 1) (by unfold mP; omega)
    refine e_Message_fill_22 a h t _ ?_
    simp (disch := omega) only [bs_pI, cc_pI, cs_pI, sh_pI, gR_pI, eI_pI, eR_pI, eL_pI, bs_pR, cc_pR, cs_pR, sh_pR, gI_pR, eI_pR, eR_pR, eL_pR, bs_uI, cc_uI, cs_uI, sh_uI, gI_uI, gR_uI, eR_uI, eL_uI, bs_uR, cc_uR, cs_uR, sh_uR, gI_uR, gR_uR, eI_uR, eL_uR, bs_uL, cc_uL, cs_uL, sh_uL, gI_uL, gR_uL, eI_uL, eR_uL, gI_s, gI_d, gR_s, gR_d, eI_s, eI_d, eI_e, eR_s, eR_d, eR_e, eL_s, eL_d, bs_bump, cc_bump, cs_bump, sh_bump, gI_bump, gR_bump, eI_bump, eR_bump, eL_bump, l_0, l_1, l_2, l_3, l_4, l_5, l_6, l_7, l_8, l_9, l_10, l_11, l_12, l_13, l_14, l_15, l_16, l_17, l_18, l_19, l_20, l_21, l_22, l_23, l_24, l_25, l_26, l_27, l_28, l_29, l_30, l_31, l_32, l_33, l_34, l_35, l_36, l_37, l_38, l_39, l_40, l_41, l_42, l_43, l_44, l_45, l_46, l_47, l_48, l_49, l_50, l_51, l_52, l_53, l_54, l_55, l_56, l_57, l_58, l_59, l_60, l_61, l_62, l_63, l_64, l_65, l_66, l_67, l_68, l_69, l_70, l_71, l_72, l_73, l_74, l_75, l_76, l_77, l_78, l_79, l_80, l_81, l_82, l_83, l_84, l_85, l_86, l_87, l_88, l_89, l_90, l_91, l_92, l_93, l_94, l_95, l_96, l_97, l_98, l_99, l_100, l_101, l_102, l_103, l_104, l_105, l_106, l_107, l_108, l_109, l_110, l_111, l_112, l_113, l_114, l_115, l_116, l_117, l_118, l_119, l_120, l_121, l_122, l_123, l_124, l_125, l_126, l_127, l_128, l_129, l_130, l_256, l_512, l_676, l_704, l_999, l_1000, l_4096, l_17576, l_32768, l_65535, l_456975, l_456976, l_m1, l_m2, in_iff, eq_m1, m1_eq, m1_lt, m1_le, le_m1, lt_m1, eq_m2, m2_m1, m1_m2, add_m1, m1_add, sub_n, mul_n, add_n, bo_n0, bo_n1, ch_n, lt_n, le_n, eq_n, ix_n, i2c_n, rem_n, div_n, kI_i, kI_x, kV_v, kV_x, kR_r, kR_n, kR_x, kHI_i, kHI_0, kHI_1, kHV_v, kHV_0, kHV_1, va_s, va_n, exists_eq_left', exists_eq_left, forall_eq, forall_eq', and_true, true_and, and_self, Option.some.injEq, Prod.mk.injEq, if_tt, if_ff, reduceIte, reduceCtorEq, not_true_eq_false, not_false_eq_true, Nat.reduceAdd, Nat.reduceMul, Nat.reduceSub, Nat.reduceLT, Nat.reduceLeDiff, Nat.reduceEqDiff, false_implies, true_implies, implies_true, hf.sh, a1, p2, hgR, a2, a3, hd.1, hh.2.2.1, hd.2.1, hd.2.2]
    rw [if_neg (by omega)]
    refine ⟨by omega, by omega, ih (i + 1) _ (by omega) (hf.tr (Fr.uI (by unfold mP; omega))) hgR p1 p2 (fun j hj => ?_) (q2.tr (Ag.uI (by omega))) (q3.tr (Ag.uI (by omega))) (q4.tr (Ag.uI (by omega)))⟩
    rw [eI_uI]
    by_cases hji : j = i
    · rw [if_pos ⟨rfl, hji⟩, hh1.2.2.2.1, hks.2.2 i (by omega), hji]
    · rw [if_neg (by omega)]; exact p3 j (by omega)
theorem c_Message_fill {h : Nat} {p : Nat} {is : List Nat} (hp : p ≤ 4) (hta : a + 5 ≤ t ∨ t + 1 < a) (hah : a + 5 ≤ h ∨ h + 1 < a) (hd : HD σ h) (g1 : gI σ 641 h = nI p) (hks : HK σ h is) (g4 : gI σ 644 h = nI (fle xs)) (hx : TX σ t cap xs) (hcap : cap < 900) (hisb : ∀ k ∈ is, k < 456976) (hfit : 5 * is.length + (xs.drop (fle xs + 1)).length ≤ 54) (hm : ME σ a ms0) (hk : ∀ σ', ME σ' a (p, is, xs.drop (fle xs + 1), fun _ => 0) → Fr (mP a) σ σ' → K (.inl none) σ') : PW (d + 2) M_Message_fill 0 [.ref a, .ref h, .ref t, uu] [] σ K := by
  have hl := hks.2.1
  refine e_Message_fill_0 a h t ?_
  have e : (if 4 < is.length then nI 4 else nI is.length) = nI is.length := if_neg (by omega)
  simp (disch := omega) only [bs_pI, cc_pI, cs_pI, sh_pI, gR_pI, eI_pI, eR_pI, eL_pI, bs_pR, cc_pR, cs_pR, sh_pR, gI_pR, eI_pR, eR_pR, eL_pR, bs_uI, cc_uI, cs_uI, sh_uI, gI_uI, gR_uI, eR_uI, eL_uI, bs_uR, cc_uR, cs_uR, sh_uR, gI_uR, gR_uR, eI_uR, eL_uR, bs_uL, cc_uL, cs_uL, sh_uL, gI_uL, gR_uL, eI_uL, eR_uL, gI_s, gI_d, gR_s, gR_d, eI_s, eI_d, eI_e, eR_s, eR_d, eR_e, eL_s, eL_d, bs_bump, cc_bump, cs_bump, sh_bump, gI_bump, gR_bump, eI_bump, eR_bump, eL_bump, l_0, l_1, l_2, l_3, l_4, l_5, l_6, l_7, l_8, l_9, l_10, l_11, l_12, l_13, l_14, l_15, l_16, l_17, l_18, l_19, l_20, l_21, l_22, l_23, l_24, l_25, l_26, l_27, l_28, l_29, l_30, l_31, l_32, l_33, l_34, l_35, l_36, l_37, l_38, l_39, l_40, l_41, l_42, l_43, l_44, l_45, l_46, l_47, l_48, l_49, l_50, l_51, l_52, l_53, l_54, l_55, l_56, l_57, l_58, l_59, l_60, l_61, l_62, l_63, l_64, l_65, l_66, l_67, l_68, l_69, l_70, l_71, l_72, l_73, l_74, l_75, l_76, l_77, l_78, l_79, l_80, l_81, l_82, l_83, l_84, l_85, l_86, l_87, l_88, l_89, l_90, l_91, l_92, l_93, l_94, l_95, l_96, l_97, l_98, l_99, l_100, l_101, l_102, l_103, l_104, l_105, l_106, l_107, l_108, l_109, l_110, l_111, l_112, l_113, l_114, l_115, l_116, l_117, l_118, l_119, l_120, l_121, l_122, l_123, l_124, l_125, l_126, l_127, l_128, l_129, l_130, l_256, l_512, l_676, l_704, l_999, l_1000, l_4096, l_17576, l_32768, l_65535, l_456975, l_456976, l_m1, l_m2, in_iff, eq_m1, m1_eq, m1_lt, m1_le, le_m1, lt_m1, eq_m2, m2_m1, m1_m2, add_m1, m1_add, sub_n, mul_n, add_n, bo_n0, bo_n1, ch_n, lt_n, le_n, eq_n, ix_n, i2c_n, rem_n, div_n, kI_i, kI_x, kV_v, kV_x, kR_r, kR_n, kR_x, kHI_i, kHI_0, kHI_1, kHV_v, kHV_0, kHV_1, va_s, va_n, exists_eq_left', exists_eq_left, forall_eq, forall_eq', and_true, true_and, and_self, Option.some.injEq, Prod.mk.injEq, if_tt, if_ff, reduceIte, reduceCtorEq, not_true_eq_false, not_false_eq_true, Nat.reduceAdd, Nat.reduceMul, Nat.reduceSub, Nat.reduceLT, Nat.reduceLeDiff, Nat.reduceEqDiff, false_implies, true_implies, implies_true, hd.1, hm.1, g1, hks.1, e]
  exact fill_22 hp hta hah hd hks g4 hx hcap hisb hfit hm hk is.length 0 _ (by omega) ((Fr.pI (by unfold mP; omega)).tr (Fr.pI (by unfold mP; omega))) (fun f => rfl) (by simp (disch := omega) only [bs_pI, cc_pI, cs_pI, sh_pI, gR_pI, eI_pI, eR_pI, eL_pI, bs_pR, cc_pR, cs_pR, sh_pR, gI_pR, eI_pR, eR_pR, eL_pR, bs_uI, cc_uI, cs_uI, sh_uI, gI_uI, gR_uI, eR_uI, eL_uI, bs_uR, cc_uR, cs_uR, sh_uR, gI_uR, gR_uR, eI_uR, eL_uR, bs_uL, cc_uL, cs_uL, sh_uL, gI_uL, gR_uL, eI_uL, eR_uL, gI_s, gI_d, gR_s, gR_d, eI_s, eI_d, eI_e, eR_s, eR_d, eR_e, eL_s, eL_d, bs_bump, cc_bump, cs_bump, sh_bump, gI_bump, gR_bump, eI_bump, eR_bump, eL_bump]) (by simp (disch := omega) only [bs_pI, cc_pI, cs_pI, sh_pI, gR_pI, eI_pI, eR_pI, eL_pI, bs_pR, cc_pR, cs_pR, sh_pR, gI_pR, eI_pR, eR_pR, eL_pR, bs_uI, cc_uI, cs_uI, sh_uI, gI_uI, gR_uI, eR_uI, eL_uI, bs_uR, cc_uR, cs_uR, sh_uR, gI_uR, gR_uR, eI_uR, eL_uR, bs_uL, cc_uL, cs_uL, sh_uL, gI_uL, gR_uL, eI_uL, eR_uL, gI_s, gI_d, gR_s, gR_d, eI_s, eI_d, eI_e, eR_s, eR_d, eR_e, eL_s, eL_d, bs_bump, cc_bump, cs_bump, sh_bump, gI_bump, gR_bump, eI_bump, eR_bump, eL_bump]) (fun j hj => absurd hj (Nat.not_lt_zero j)) ((Ag.pI (by omega)).tr (Ag.pI (by omega))) ((Ag.pI (by omega)).tr (Ag.pI (by omega))) ((Ag.pI (by omega)).tr (Ag.pI (by omega)))
end CMessage
/-- a case: its reason and text -/
def CA (σ : PH) (a : Nat) (c : Nat × List Nat) : Prop := sh σ a = (1, 7) ∧ gR σ 449 a = some (a + 1) ∧ gI σ 448 a = nI c.1 ∧ c.1 ≤ 5 ∧ TX σ (a + 1) 60 c.2
theorem CA.ag {σ σ' : PH} {a : Nat} {c : Nat × List Nat} (h : CA σ a c) (h1 : ∀ q, a ≤ q → q < a + 3 → Ag σ σ' q) : CA σ' a c := by
  obtain ⟨a1, a2, a3, a4, a5⟩ := h
  have g0 := h1 a (by omega) (by omega)
  exact ⟨by rw [g0.1]; exact a1, by rw [g0.2.2.1]; exact a2, by rw [g0.2.1]; exact a3, a4, a5.ag (h1 _ (by omega) (by omega)) (h1 _ (by omega) (by omega))⟩
theorem c_Case_isClosed {d : Nat} {σ : PH} {K : PO → PH → Prop} {a : Nat} {c : Nat × List Nat} (h : CA σ a c) (hk : K (.inl (some (.int (nI (decide (c.1 = 0)).toNat)))) σ) : PW d M_Case_isClosed 0 [.ref a] [] σ K := by
  obtain ⟨a1, a2, a3, a4, a5⟩ := h
  refine e_Case_isClosed_0 a ?_
  simp (disch := omega) only [bs_pI, cc_pI, cs_pI, sh_pI, gR_pI, eI_pI, eR_pI, eL_pI, bs_pR, cc_pR, cs_pR, sh_pR, gI_pR, eI_pR, eR_pR, eL_pR, bs_uI, cc_uI, cs_uI, sh_uI, gI_uI, gR_uI, eR_uI, eL_uI, bs_uR, cc_uR, cs_uR, sh_uR, gI_uR, gR_uR, eI_uR, eL_uR, bs_uL, cc_uL, cs_uL, sh_uL, gI_uL, gR_uL, eI_uL, eR_uL, gI_s, gI_d, gR_s, gR_d, eI_s, eI_d, eI_e, eR_s, eR_d, eR_e, eL_s, eL_d, bs_bump, cc_bump, cs_bump, sh_bump, gI_bump, gR_bump, eI_bump, eR_bump, eL_bump, l_0, l_1, l_2, l_3, l_4, l_5, l_6, l_7, l_8, l_9, l_10, l_11, l_12, l_13, l_14, l_15, l_16, l_17, l_18, l_19, l_20, l_21, l_22, l_23, l_24, l_25, l_26, l_27, l_28, l_29, l_30, l_31, l_32, l_33, l_34, l_35, l_36, l_37, l_38, l_39, l_40, l_41, l_42, l_43, l_44, l_45, l_46, l_47, l_48, l_49, l_50, l_51, l_52, l_53, l_54, l_55, l_56, l_57, l_58, l_59, l_60, l_61, l_62, l_63, l_64, l_65, l_66, l_67, l_68, l_69, l_70, l_71, l_72, l_73, l_74, l_75, l_76, l_77, l_78, l_79, l_80, l_81, l_82, l_83, l_84, l_85, l_86, l_87, l_88, l_89, l_90, l_91, l_92, l_93, l_94, l_95, l_96, l_97, l_98, l_99, l_100, l_101, l_102, l_103, l_104, l_105, l_106, l_107, l_108, l_109, l_110, l_111, l_112, l_113, l_114, l_115, l_116, l_117, l_118, l_119, l_120, l_121, l_122, l_123, l_124, l_125, l_126, l_127, l_128, l_129, l_130, l_256, l_512, l_676, l_704, l_999, l_1000, l_4096, l_17576, l_32768, l_65535, l_456975, l_456976, l_m1, l_m2, in_iff, eq_m1, m1_eq, m1_lt, m1_le, le_m1, lt_m1, eq_m2, m2_m1, m1_m2, add_m1, m1_add, sub_n, mul_n, add_n, bo_n0, bo_n1, ch_n, lt_n, le_n, eq_n, ix_n, i2c_n, rem_n, div_n, kI_i, kI_x, kV_v, kV_x, kR_r, kR_n, kR_x, kHI_i, kHI_0, kHI_1, kHV_v, kHV_0, kHV_1, va_s, va_n, exists_eq_left', exists_eq_left, forall_eq, forall_eq', and_true, true_and, and_self, Option.some.injEq, Prod.mk.injEq, if_tt, if_ff, reduceIte, reduceCtorEq, not_true_eq_false, not_false_eq_true, Nat.reduceAdd, Nat.reduceMul, Nat.reduceSub, Nat.reduceLT, Nat.reduceLeDiff, Nat.reduceEqDiff, false_implies, true_implies, implies_true, a1, a3]
  by_cases h0 : c.1 = 0
  · rw [if_pos h0]; rw [decide_eq_true h0] at hk; exact hk
  · rw [if_neg h0]; rw [decide_eq_false h0] at hk; exact hk
