/-! ===== contracts of clerk, rerun, route, group ===== -/
theorem sg_lt {c : Nat} (h : sg c < 32) : c < 128 := by
  unfold sg at h
  by_cases h1 : c = 32
  · omega
  · rw [if_neg h1] at h
    by_cases h2 : c = 10
    · omega
    · rw [if_neg h2] at h
      by_cases h3 : isL c = true
      · have := isL_iff.mp h3; omega
      · rw [if_neg h3] at h
        by_cases h4 : c < 128
        · exact h4
        · rw [plc_big (by omega), if_neg (by omega)] at h; omega
theorem set_snoc {α : Type} {R : List α} {x y : α} : (R ++ [x]).set R.length y = R ++ [y] := by
  rw [List.set_append_right _ _ (Nat.le_refl _), Nat.sub_self]; rfl
theorem getD_snoc0 {α : Type} {R : List α} {x d : α} : (R ++ [x]).getD R.length d = x := by
  rw [List.getD_eq_getElem?_getD, List.getElem?_append_right (Nat.le_refl _), Nat.sub_self]; rfl
/-- routes with a route or a group more -/
def rtBad (R : List RO) (i : Nat) : Prop := rix R i < R.length ∧ (R.getD (rix R i) r0).2.2.2 ≠ []
def rtFull (R : List RO) (i : Nat) : Prop := ¬ rix R i < R.length ∧ R.length = 12
def rtR (R : List RO) (i c a : Nat) : List RO := if rix R i < R.length then R.set (rix R i) (i, c, a, []) else R ++ [(i, c, a, [])]
def gpBad (R : List RO) (i m : Nat) : Prop := i = m ∨ Lds R m i ∨ (rix R i < R.length ∧ ((R.getD (rix R i) r0).2.2.2 = [] ∨ m ∈ (R.getD (rix R i) r0).2.2.2))
def gpFull (R : List RO) (i : Nat) : Prop := (¬ rix R i < R.length ∧ R.length = 12) ∨ (rix R i < R.length ∧ (R.getD (rix R i) r0).2.2.2.length = 4)
def gpR (R : List RO) (i m : Nat) : List RO := if rix R i < R.length then R.set (rix R i) ((R.getD (rix R i) r0).1, (R.getD (rix R i) r0).2.1, (R.getD (rix R i) r0).2.2.1, (R.getD (rix R i) r0).2.2.2 ++ [m]) else R ++ [(i, 0, 0, [m])]
def gpN (R : List RO) (i : Nat) : Nat := if rix R i < R.length then (R.getD (rix R i) r0).2.2.2.length + 1 else 1
section Desk3
variable {d : Nat} {σ σ' : PH} {K : PO → PH → Prop} {B : Nat} {S : SP}
theorem k_clerk {x : Int32} {c : Nat} (hC : CR σ B S) (hN : S.2.2.1.length ≤ 6) (hc : c < 65536) (hR : Rm σ) (hkA : (x < 1 ∨ ¬ x ≤ nI S.2.2.1.length) ∨ ¬ sg c < 32 → K (.inr 0) (bump σ 1 6)) (hkS : ∀ i, 1 ≤ i → i ≤ S.2.2.1.length → x = nI i → sg c < 32 → ((S.2.2.1.getD (i - 1) (0, [])).1 = 0 ∨ (S.2.2.1.getD (i - 1) (0, [])).2.length = 60) → K (.inr 1) (bump σ 1 6)) (hkO : ∀ i, 1 ≤ i → i ≤ S.2.2.1.length → x = nI i → sg c < 32 → (S.2.2.1.getD (i - 1) (0, [])).1 ≠ 0 → (S.2.2.1.getD (i - 1) (0, [])).2.length < 60 → ∀ σ', CR σ' B (uK S (S.2.2.1.set (i - 1) ((S.2.2.1.getD (i - 1) (0, [])).1, (S.2.2.1.getD (i - 1) (0, [])).2 ++ [c]))) → Fr (dP B) σ σ' → K (.inl none) σ') : PW (d + 7) M_Desk_clerk 0 [.ref B, .int x, .int (nI c), uu] [] σ K := by
  obtain ⟨a1, a2, a3, a4, a5, a6, a7, a8, a9, a10, a11, a12, a13, a14⟩ := hC.1
  refine e_Desk_clerk_0 B x _ ⟨a1, ?_⟩
  rw [a8]
  refine c_needWithin hR (fun h1 h2 => ?_) (fun h => hkA (Or.inl h))
  obtain ⟨m, m1', m2', rfl⟩ := rngN (by omega) h1 h2
  have hm := hC.2.2.2.2.2 (m - 1) (by omega)
  simp only [kV_v]
  refine c_Signs_signOf hc ?_
  simp only [kI_i]
  unfold sgI
  by_cases hs : sg c < 32
  · rw [if_pos hs, if_neg (by rw [show (-1 : Int32) = m1 from rfl, eq_m1 (by omega)]; exact id)]
    simp (disch := omega) only [bs_pI, cc_pI, cs_pI, sh_pI, gR_pI, eI_pI, eR_pI, eL_pI, bs_pR, cc_pR, cs_pR, sh_pR, gI_pR, eI_pR, eR_pR, eL_pR, bs_uI, cc_uI, cs_uI, sh_uI, gI_uI, gR_uI, eR_uI, eL_uI, bs_uR, cc_uR, cs_uR, sh_uR, gI_uR, gR_uR, eI_uR, eL_uR, bs_uL, cc_uL, cs_uL, sh_uL, gI_uL, gR_uL, eI_uL, eR_uL, gI_s, gI_d, gR_s, gR_d, eI_s, eI_d, eI_e, eR_s, eR_d, eR_e, eL_s, eL_d, bs_bump, cc_bump, cs_bump, sh_bump, gI_bump, gR_bump, eI_bump, eR_bump, eL_bump, l_0, l_1, l_2, l_3, l_4, l_5, l_6, l_7, l_8, l_9, l_10, l_11, l_12, l_13, l_14, l_15, l_16, l_17, l_18, l_19, l_20, l_21, l_22, l_23, l_24, l_25, l_26, l_27, l_28, l_29, l_30, l_31, l_32, l_33, l_34, l_35, l_36, l_37, l_38, l_39, l_40, l_41, l_42, l_43, l_44, l_45, l_46, l_47, l_48, l_49, l_50, l_51, l_52, l_53, l_54, l_55, l_56, l_57, l_58, l_59, l_60, l_61, l_62, l_63, l_64, l_65, l_66, l_67, l_68, l_69, l_70, l_71, l_72, l_73, l_74, l_75, l_76, l_77, l_78, l_79, l_80, l_81, l_82, l_83, l_84, l_85, l_86, l_87, l_88, l_89, l_90, l_91, l_92, l_93, l_94, l_95, l_96, l_97, l_98, l_99, l_100, l_101, l_102, l_103, l_104, l_105, l_106, l_107, l_108, l_109, l_110, l_111, l_112, l_113, l_114, l_115, l_116, l_117, l_118, l_119, l_120, l_121, l_122, l_123, l_124, l_125, l_126, l_127, l_128, l_129, l_130, l_256, l_512, l_676, l_704, l_999, l_1000, l_4096, l_17576, l_32768, l_65535, l_456975, l_456976, l_m1, l_m2, in_iff, eq_m1, m1_eq, m1_lt, m1_le, le_m1, lt_m1, eq_m2, m2_m1, m1_m2, add_m1, m1_add, sub_n, mul_n, add_n, bo_n0, bo_n1, ch_n, lt_n, le_n, eq_n, ix_n, i2c_n, rem_n, div_n, kI_i, kI_x, kV_v, kV_x, kR_r, kR_n, kR_x, kHI_i, kHI_0, kHI_1, kHV_v, kHV_0, kHV_1, va_s, va_n, exists_eq_left', exists_eq_left, forall_eq, forall_eq', and_true, true_and, and_self, Option.some.injEq, Prod.mk.injEq, if_tt, if_ff, reduceIte, reduceCtorEq, not_true_eq_false, not_false_eq_true, Nat.reduceAdd, Nat.reduceMul, Nat.reduceSub, Nat.reduceLT, Nat.reduceLeDiff, Nat.reduceEqDiff, false_implies, true_implies, implies_true, a1, a4, a13]
    rw [a14 (m - 1) (by omega)]
    simp (disch := omega) only [kI_i, kI_x, kV_v, kV_x, kR_r, kR_n, kR_x, kHI_i, kHI_0, kHI_1, kHV_v, kHV_0, kHV_1, va_s, va_n, exists_eq_left', exists_eq_left, forall_eq, forall_eq', and_true, true_and, and_self, Option.some.injEq, Prod.mk.injEq, if_tt, if_ff, reduceIte, reduceCtorEq, not_true_eq_false, not_false_eq_true, Nat.reduceAdd, Nat.reduceMul, Nat.reduceSub, Nat.reduceLT, Nat.reduceLeDiff, Nat.reduceEqDiff, false_implies, true_implies, implies_true, hm.1]
    refine ⟨by omega, c_Case_isClosed hm ?_⟩
    simp only [kI_i]
    by_cases h0 : (S.2.2.1.getD (m - 1) (0, [])).1 = 0
    · rw [decide_eq_true h0, if_neg (by decide)]
      exact ⟨by have := hR.1; omega, by have := hR.2; omega, hkS m m1' m2' rfl hs (Or.inl h0)⟩
    · rw [decide_eq_false h0, if_pos (by decide)]
      obtain ⟨c1, c2, c3, c4, c5⟩ := hm
      have hl := c5.2.2.2.2.1
      simp (disch := omega) only [bs_pI, cc_pI, cs_pI, sh_pI, gR_pI, eI_pI, eR_pI, eL_pI, bs_pR, cc_pR, cs_pR, sh_pR, gI_pR, eI_pR, eR_pR, eL_pR, bs_uI, cc_uI, cs_uI, sh_uI, gI_uI, gR_uI, eR_uI, eL_uI, bs_uR, cc_uR, cs_uR, sh_uR, gI_uR, gR_uR, eI_uR, eL_uR, bs_uL, cc_uL, cs_uL, sh_uL, gI_uL, gR_uL, eI_uL, eR_uL, gI_s, gI_d, gR_s, gR_d, eI_s, eI_d, eI_e, eR_s, eR_d, eR_e, eL_s, eL_d, bs_bump, cc_bump, cs_bump, sh_bump, gI_bump, gR_bump, eI_bump, eR_bump, eL_bump, l_0, l_1, l_2, l_3, l_4, l_5, l_6, l_7, l_8, l_9, l_10, l_11, l_12, l_13, l_14, l_15, l_16, l_17, l_18, l_19, l_20, l_21, l_22, l_23, l_24, l_25, l_26, l_27, l_28, l_29, l_30, l_31, l_32, l_33, l_34, l_35, l_36, l_37, l_38, l_39, l_40, l_41, l_42, l_43, l_44, l_45, l_46, l_47, l_48, l_49, l_50, l_51, l_52, l_53, l_54, l_55, l_56, l_57, l_58, l_59, l_60, l_61, l_62, l_63, l_64, l_65, l_66, l_67, l_68, l_69, l_70, l_71, l_72, l_73, l_74, l_75, l_76, l_77, l_78, l_79, l_80, l_81, l_82, l_83, l_84, l_85, l_86, l_87, l_88, l_89, l_90, l_91, l_92, l_93, l_94, l_95, l_96, l_97, l_98, l_99, l_100, l_101, l_102, l_103, l_104, l_105, l_106, l_107, l_108, l_109, l_110, l_111, l_112, l_113, l_114, l_115, l_116, l_117, l_118, l_119, l_120, l_121, l_122, l_123, l_124, l_125, l_126, l_127, l_128, l_129, l_130, l_256, l_512, l_676, l_704, l_999, l_1000, l_4096, l_17576, l_32768, l_65535, l_456975, l_456976, l_m1, l_m2, in_iff, eq_m1, m1_eq, m1_lt, m1_le, le_m1, lt_m1, eq_m2, m2_m1, m1_m2, add_m1, m1_add, sub_n, mul_n, add_n, bo_n0, bo_n1, ch_n, lt_n, le_n, eq_n, ix_n, i2c_n, rem_n, div_n, kI_i, kI_x, kV_v, kV_x, kR_r, kR_n, kR_x, kHI_i, kHI_0, kHI_1, kHV_v, kHV_0, kHV_1, va_s, va_n, exists_eq_left', exists_eq_left, forall_eq, forall_eq', and_true, true_and, and_self, Option.some.injEq, Prod.mk.injEq, if_tt, if_ff, reduceIte, reduceCtorEq, not_true_eq_false, not_false_eq_true, Nat.reduceAdd, Nat.reduceMul, Nat.reduceSub, Nat.reduceLT, Nat.reduceLeDiff, Nat.reduceEqDiff, false_implies, true_implies, implies_true, c1, c2, c5.1, c5.2.2.2.1]
      by_cases h6 : (S.2.2.1.getD (m - 1) (0, [])).2.length < 60
      · rw [if_pos h6]
        refine c_Text_add c5 (sg_lt hs) (fun σ1 g1 f1 => ?_)
        rw [if_pos h6] at g1
        simp only [kV_v]
        have fa := f1.ag (q := B + 170 + 3 * (m - 1)) (by unfold tP; omega)
        exact hkO m m1' m2' rfl hs h0 h6 σ1 (hC.case (by omega) hN (f1.mo (fun q hq => by unfold tP at hq; omega)) ⟨by rw [fa.1]; exact c1, by rw [fa.2.2.1]; exact c2, by rw [fa.2.1]; exact c3, c4, g1⟩) (f1.mo (fun q hq => by unfold tP at hq; unfold dP; omega))
      · rw [if_neg h6]
        exact ⟨by have := hR.1; omega, by have := hR.2; omega, hkS m m1' m2' rfl hs (Or.inr (by omega))⟩
  · rw [if_neg hs, if_pos (show m1 = -1 from rfl)]
    exact ⟨by have := hR.1; omega, by have := hR.2; omega, hkA (Or.inr hs)⟩
/-- a message's place from its address -/
def mmF (B : Nat) (M : List MS) (x : Nat) : MS := msg M ((x - (B + 120)) / 5 + 1)
theorem mmF_mA {M : List MS} {m : Nat} (h : 1 ≤ m) : mmF B M (mA B m) = msg M m := by
  unfold mmF mA
  rw [show (B + 120 + 5 * (m - 1) - (B + 120)) / 5 + 1 = m by omega]
theorem mA_inj {m m' : Nat} (h : 1 ≤ m) (h' : 1 ≤ m') (e : mA B m = mA B m') : m = m' := by unfold mA at e; omega
theorem fnd_sent {M : List MS} {c k : Nat} {l : List (Nat × Nat)} (h1 : ∀ p ∈ l, 1 ≤ p.1 ∧ (msg M p.1).2.2.2 c = p.2 + 2) (h2 : l.Pairwise (fun p q => p.2 < q.2)) : fnd (mmF B M) c k (l.reverse.map (fun p => mA B p.1)) = (fndS l k).map (fun p => mA B p.1) := by
  have hu : ∀ p ∈ l, ∀ q ∈ l, p.2 = q.2 → p = q := by
    clear h1
    induction l with
    | nil => intro p hp; cases hp
    | cons a l ih =>
      obtain ⟨h3, h4⟩ := List.pairwise_cons.mp h2
      intro p hp q hq e
      rcases List.mem_cons.mp hp with hp' | hp'
      · rcases List.mem_cons.mp hq with hq' | hq'
        · rw [hp', hq']
        · have := h3 q hq'; rw [← hp'] at this; omega
      · rcases List.mem_cons.mp hq with hq' | hq'
        · have := h3 p hp'; rw [← hq'] at this; omega
        · exact ih h4 p hp' q hq' e
  unfold fnd
  cases hf : fndS l k with
  | none =>
    rw [Option.map_none, List.find?_eq_none]
    intro x hx
    obtain ⟨p, hp, rfl⟩ := List.mem_map.mp hx
    have hp := List.mem_reverse.mp hp
    have := List.find?_eq_none.mp hf p hp
    rw [mmF_mA (h1 p hp).1, (h1 p hp).2]
    simp at this ⊢
    exact this
  | some p =>
    have hp := List.mem_of_find?_eq_some hf
    have hk : p.2 = k := by simpa using List.find?_some hf
    cases hg : (l.reverse.map (fun p => mA B p.1)).find? (fun x => decide ((mmF B M x).2.2.2 c = k + 2)) with
    | none =>
      have := List.find?_eq_none.mp hg (mA B p.1) (List.mem_map.mpr ⟨p, List.mem_reverse.mpr hp, rfl⟩)
      rw [mmF_mA (h1 p hp).1, (h1 p hp).2] at this
      simp at this
      exact absurd hk this
    | some x =>
      obtain ⟨q, hq, rfl⟩ := List.mem_map.mp (List.mem_of_find?_eq_some hg)
      have hq := List.mem_reverse.mp hq
      have := List.find?_some hg
      rw [mmF_mA (h1 q hq).1, (h1 q hq).2] at this
      have e : q.2 = k := by simpa using this
      rw [hu q hq p hp (by omega)]
      rfl
theorem k_rerun {x y : Int32} {T : Nat} (hC : CR σ B S) (hI : Inv S T) (hR : Rm σ) (hkA : (x < 0 ∨ ¬ x ≤ 7) ∨ (y < 1 ∨ ¬ y ≤ 999) → K (.inr 0) (bump σ 1 6)) (hkS : ∀ c k, c < 8 → x = nI c → 1 ≤ k → k ≤ 999 → y = nI k → (sAsk (S.1 c)).length = 3 → K (.inr 1) (bump σ 1 6)) (hkO : ∀ c k, c < 8 → x = nI c → 1 ≤ k → k ≤ 999 → y = nI k → (sAsk (S.1 c)).length < 3 → ∀ σ', CR σ' B (spRerun S c k).1 → Fr (dP B) σ σ' → K (.inl (some (.int (nI (spRerun S c k).2)))) σ') : PW (d + 7) M_Desk_rerun 0 [.ref B, .int x, .int y, uu] [] σ K := by
  obtain ⟨a1, a2, a3, a4, a5, a6, a7, a8, a9, a10, a11, a12, a13, a14⟩ := hC.1
  refine e_Desk_rerun_0 B x y (c_needWithin hR (fun h1 h2 => ?_) (fun h => hkA (Or.inl h)))
  refine c_needWithin hR (fun h3 h4 => ?_) (fun h => hkA (Or.inr h))
  obtain ⟨c, hc, rfl⟩ := chanN h1 h2
  obtain ⟨k, k1, k2, rfl⟩ := rngN (n := 999) (by omega) h3 h4
  obtain ⟨b1, b2, b3, b4, b5, b6, b7, n, ag, tp, pos, fg, b8, b9⟩ := hC.2.2.2.1 c hc
  obtain ⟨i1, i2, i3, i4, i5⟩ := hI
  obtain ⟨j1, j2, j3, j4, j5, j6, j7, j8, j9, j10, j11, j12, j13⟩ := i4 c hc
  have e17 := b8.2.2.2.2.2.2.2.2.2.2.2.2.2.2.2.2.1
  rw [List.length_map] at e17
  simp (disch := omega) only [kV_v, a1, a2, a9, kI_i, kI_x, kV_v, kV_x, kR_r, kR_n, kR_x, kHI_i, kHI_0, kHI_1, kHV_v, kHV_0, kHV_1, va_s, va_n, exists_eq_left', exists_eq_left, forall_eq, forall_eq', and_true, true_and, and_self, Option.some.injEq, Prod.mk.injEq, if_tt, if_ff, reduceIte, reduceCtorEq, not_true_eq_false, not_false_eq_true, Nat.reduceAdd, Nat.reduceMul, Nat.reduceSub, Nat.reduceLT, Nat.reduceLeDiff, Nat.reduceEqDiff, false_implies, true_implies, implies_true, in_iff, eq_m1, m1_eq, m1_lt, m1_le, le_m1, lt_m1, eq_m2, m2_m1, m1_m2, add_m1, m1_add, sub_n, mul_n, add_n, bo_n0, bo_n1, ch_n, lt_n, le_n, eq_n, ix_n, i2c_n, rem_n, div_n]
  rw [a10 c hc]
  simp (disch := omega) only [kI_i, kI_x, kV_v, kV_x, kR_r, kR_n, kR_x, kHI_i, kHI_0, kHI_1, kHV_v, kHV_0, kHV_1, va_s, va_n, exists_eq_left', exists_eq_left, forall_eq, forall_eq', and_true, true_and, and_self, Option.some.injEq, Prod.mk.injEq, if_tt, if_ff, reduceIte, reduceCtorEq, not_true_eq_false, not_false_eq_true, Nat.reduceAdd, Nat.reduceMul, Nat.reduceSub, Nat.reduceLT, Nat.reduceLeDiff, Nat.reduceEqDiff, false_implies, true_implies, implies_true, l_0, l_1, l_2, l_3, l_4, l_5, l_6, l_7, l_8, l_9, l_10, l_11, l_12, l_13, l_14, l_15, l_16, l_17, l_18, l_19, l_20, l_21, l_22, l_23, l_24, l_25, l_26, l_27, l_28, l_29, l_30, l_31, l_32, l_33, l_34, l_35, l_36, l_37, l_38, l_39, l_40, l_41, l_42, l_43, l_44, l_45, l_46, l_47, l_48, l_49, l_50, l_51, l_52, l_53, l_54, l_55, l_56, l_57, l_58, l_59, l_60, l_61, l_62, l_63, l_64, l_65, l_66, l_67, l_68, l_69, l_70, l_71, l_72, l_73, l_74, l_75, l_76, l_77, l_78, l_79, l_80, l_81, l_82, l_83, l_84, l_85, l_86, l_87, l_88, l_89, l_90, l_91, l_92, l_93, l_94, l_95, l_96, l_97, l_98, l_99, l_100, l_101, l_102, l_103, l_104, l_105, l_106, l_107, l_108, l_109, l_110, l_111, l_112, l_113, l_114, l_115, l_116, l_117, l_118, l_119, l_120, l_121, l_122, l_123, l_124, l_125, l_126, l_127, l_128, l_129, l_130, l_256, l_512, l_676, l_704, l_999, l_1000, l_4096, l_17576, l_32768, l_65535, l_456975, l_456976, l_m1, l_m2, in_iff, eq_m1, m1_eq, m1_lt, m1_le, le_m1, lt_m1, eq_m2, m2_m1, m1_m2, add_m1, m1_add, sub_n, mul_n, add_n, bo_n0, bo_n1, ch_n, lt_n, le_n, eq_n, ix_n, i2c_n, rem_n, div_n, b1, b5, b8.1, e17]
  refine ⟨hc, ?_⟩
  have hf := fnd_sent (B := B) (M := S.2.1) (c := c) (k := k) (l := sSent (S.1 c)) (fun p hp => ⟨(j12 p (Or.inl hp)).1, (j12 p (Or.inl hp)).2.2.2.2⟩) j13
  by_cases hl : (sAsk (S.1 c)).length < 3
  · rw [if_pos hl]
    refine c_Outlet_asksAgain (mm := mmF B S.2.1) k1 k2 b8 (fun x hx => ?_) (by rw [List.length_map]; exact hl) (fun hn => ?_) (fun x σ' hs g1 f1 => ?_)
    · obtain ⟨p, hp, rfl⟩ := List.mem_map.mp hx
      have hp := j12 p (Or.inl (List.mem_reverse.mp hp))
      rw [mmF_mA hp.1]
      exact hC.2.2.2.2.1 p.1 hp.1 (by omega)
    · simp only [kI_i]
      rw [hf] at hn
      have hn := Option.map_eq_none_iff.mp hn
      have := hkO c k hc rfl k1 k2 rfl hl σ
      unfold spRerun at this
      rw [hn] at this
      exact ⟨Or.inl rfl, this hC Fr.rf⟩
    · simp only [kI_i]
      rw [hf] at hs
      obtain ⟨p, hp, e⟩ := Option.map_eq_some_iff.mp hs
      have := hkO c k hc rfl k1 k2 rfl hl σ'
      unfold spRerun at this
      rw [hp] at this
      have fc := f1.mo (Q := hP (cA B c)) (fun q hq => by unfold oP at hq; unfold hP; omega)
      have fa := f1.ag (q := cA B c) (by unfold oP; omega)
      refine ⟨Or.inr rfl, this (hC.chan hc fc ⟨by rw [fa.1]; exact b1, by rw [fa.2.1]; exact b2, by rw [fa.2.2.1]; exact b3, by rw [fa.2.2.1]; exact b4, by rw [fa.2.2.1]; exact b5, b6.ag (f1.ag (by unfold oP; omega)) (f1.ag (by unfold oP; omega)) (f1.ag (by unfold oP; omega)), b7.ag (f1.ag (by unfold oP; omega)) (f1.ag (by unfold oP; omega)), n, ag, tp, pos, fg, ?_, b9⟩) (fc.mo (fun q hq => by unfold hP cA at hq; unfold dP; omega))⟩
      rw [← e] at g1
      show OU σ' (cA B c + 6) c _ n ag (sLn (S.1 c)) ((sAsk (S.1 c) ++ [p]).map (fun p => mA B p.1)) _ tp pos fg
      rw [List.map_append]
      exact g1
  · rw [if_neg hl]
    exact ⟨by have := hR.1; omega, by have := hR.2; omega, hkS c k hc rfl k1 k2 rfl (by omega)⟩
theorem codeN {x : Int32} (h1 : ¬ x < 0) (h2 : x ≤ 456975) : ∃ c : Nat, c < 456976 ∧ x = nI c := by
  obtain ⟨j, h3, h4⟩ := nI_of2 (M := 456975) (n := 456975) (by decide) h1 h2
  exact ⟨j, by omega, h4⟩
theorem k_route {x y z : Int32} (hC : CR σ B S) (hR : Rm σ) (hkA : (x < 0 ∨ ¬ x ≤ 456975) ∨ (y < 0 ∨ ¬ y ≤ 7) ∨ (z < 0 ∨ ¬ z ≤ 7) → K (.inr 0) (bump σ 1 6)) (hk : ∀ i c a, i < 456976 → c < 8 → a < 8 → x = nI i → y = nI c → z = nI a → (rtBad S.2.2.2 i → K (.inr 0) (bump σ 1 6)) ∧ (¬ rtBad S.2.2.2 i → rtFull S.2.2.2 i → K (.inr 1) (bump σ 1 6)) ∧ (¬ rtBad S.2.2.2 i → ¬ rtFull S.2.2.2 i → ∀ σ', CR σ' B (uR' S (rtR S.2.2.2 i c a)) → Fr (dP B) σ σ' → K (.inl none) σ')) : PW (d + 7) M_Desk_route 0 [.ref B, .int x, .int y, .int z, uu, uu] [] σ K := by
  obtain ⟨a1, a2, a3, a4, a5, a6, a7, a8, a9, a10, a11, a12, a13, a14⟩ := hC.1
  refine e_Desk_route_0 B x y z (c_needWithin hR (fun h1 h2 => ?_) (fun h => hkA (Or.inl h)))
  refine c_needWithin hR (fun h3 h4 => ?_) (fun h => hkA (Or.inr (Or.inl h)))
  refine c_needWithin hR (fun h5 h6 => ?_) (fun h => hkA (Or.inr (Or.inr h)))
  obtain ⟨i, hi, rfl⟩ := codeN h1 h2
  obtain ⟨c, hc, rfl⟩ := chanN h3 h4
  obtain ⟨a, ha, rfl⟩ := chanN h5 h6
  obtain ⟨hkB, hkF, hkO⟩ := hk i c a hi hc ha rfl rfl rfl
  have hr := hC.2.1
  have hr0 := hr
  obtain ⟨r1, r2, r3, r4, r5, r6, r7⟩ := hr
  have hrs := rix_spec S.2.2.2 i
  simp only [kV_v, a1, a5, kI_i, kI_x, kV_v, kV_x, kR_r, kR_n, kR_x, kHI_i, kHI_0, kHI_1, kHV_v, kHV_0, kHV_1, va_s, va_n, exists_eq_left', exists_eq_left, forall_eq, forall_eq', and_true, true_and, and_self, Option.some.injEq, Prod.mk.injEq, if_tt, if_ff, reduceIte, reduceCtorEq, not_true_eq_false, not_false_eq_true, Nat.reduceAdd, Nat.reduceMul, Nat.reduceSub, Nat.reduceLT, Nat.reduceLeDiff, Nat.reduceEqDiff, false_implies, true_implies, implies_true]
  refine ⟨r1, c_Routes_rowOf hr0 hi ?_⟩
  simp only [kI_i]
  by_cases hx : rix S.2.2.2 i < S.2.2.2.length
  · rw [if_pos hx, if_neg (by rw [show (-1 : Int32) = m1 from rfl, eq_m1 (by omega)]; exact id)]
    simp (disch := omega) only [bs_pI, cc_pI, cs_pI, sh_pI, gR_pI, eI_pI, eR_pI, eL_pI, bs_pR, cc_pR, cs_pR, sh_pR, gI_pR, eI_pR, eR_pR, eL_pR, bs_uI, cc_uI, cs_uI, sh_uI, gI_uI, gR_uI, eR_uI, eL_uI, bs_uR, cc_uR, cs_uR, sh_uR, gI_uR, gR_uR, eI_uR, eL_uR, bs_uL, cc_uL, cs_uL, sh_uL, gI_uL, gR_uL, eI_uL, eR_uL, gI_s, gI_d, gR_s, gR_d, eI_s, eI_d, eI_e, eR_s, eR_d, eR_e, eL_s, eL_d, bs_bump, cc_bump, cs_bump, sh_bump, gI_bump, gR_bump, eI_bump, eR_bump, eL_bump, l_0, l_1, l_2, l_3, l_4, l_5, l_6, l_7, l_8, l_9, l_10, l_11, l_12, l_13, l_14, l_15, l_16, l_17, l_18, l_19, l_20, l_21, l_22, l_23, l_24, l_25, l_26, l_27, l_28, l_29, l_30, l_31, l_32, l_33, l_34, l_35, l_36, l_37, l_38, l_39, l_40, l_41, l_42, l_43, l_44, l_45, l_46, l_47, l_48, l_49, l_50, l_51, l_52, l_53, l_54, l_55, l_56, l_57, l_58, l_59, l_60, l_61, l_62, l_63, l_64, l_65, l_66, l_67, l_68, l_69, l_70, l_71, l_72, l_73, l_74, l_75, l_76, l_77, l_78, l_79, l_80, l_81, l_82, l_83, l_84, l_85, l_86, l_87, l_88, l_89, l_90, l_91, l_92, l_93, l_94, l_95, l_96, l_97, l_98, l_99, l_100, l_101, l_102, l_103, l_104, l_105, l_106, l_107, l_108, l_109, l_110, l_111, l_112, l_113, l_114, l_115, l_116, l_117, l_118, l_119, l_120, l_121, l_122, l_123, l_124, l_125, l_126, l_127, l_128, l_129, l_130, l_256, l_512, l_676, l_704, l_999, l_1000, l_4096, l_17576, l_32768, l_65535, l_456975, l_456976, l_m1, l_m2, in_iff, eq_m1, m1_eq, m1_lt, m1_le, le_m1, lt_m1, eq_m2, m2_m1, m1_m2, add_m1, m1_add, sub_n, mul_n, add_n, bo_n0, bo_n1, ch_n, lt_n, le_n, eq_n, ix_n, i2c_n, rem_n, div_n, kI_i, kI_x, kV_v, kV_x, kR_r, kR_n, kR_x, kHI_i, kHI_0, kHI_1, kHV_v, kHV_0, kHV_1, va_s, va_n, exists_eq_left', exists_eq_left, forall_eq, forall_eq', and_true, true_and, and_self, Option.some.injEq, Prod.mk.injEq, if_tt, if_ff, reduceIte, reduceCtorEq, not_true_eq_false, not_false_eq_true, Nat.reduceAdd, Nat.reduceMul, Nat.reduceSub, Nat.reduceLT, Nat.reduceLeDiff, Nat.reduceEqDiff, false_implies, true_implies, implies_true, a1, a5, r1, r2, r3]
    rw [r4 _ (by omega)]
    have ht := r7 (rix S.2.2.2 i) (by omega)
    simp (disch := omega) only [kI_i, kI_x, kV_v, kV_x, kR_r, kR_n, kR_x, kHI_i, kHI_0, kHI_1, kHV_v, kHV_0, kHV_1, va_s, va_n, exists_eq_left', exists_eq_left, forall_eq, forall_eq', and_true, true_and, and_self, Option.some.injEq, Prod.mk.injEq, if_tt, if_ff, reduceIte, reduceCtorEq, not_true_eq_false, not_false_eq_true, Nat.reduceAdd, Nat.reduceMul, Nat.reduceSub, Nat.reduceLT, Nat.reduceLeDiff, Nat.reduceEqDiff, false_implies, true_implies, implies_true, ht.1]
    refine ⟨by omega, c_Route_isGroup ht ?_⟩
    simp only [kI_i]
    by_cases hg : (S.2.2.2.getD (rix S.2.2.2 i) r0).2.2.2 = []
    · have hnb : ¬ rtBad S.2.2.2 i := fun q => q.2 hg
      have hnf : ¬ rtFull S.2.2.2 i := fun q => q.1 hx
      rw [decide_eq_false (fun q => q hg), if_pos (by decide)]
      refine e_Desk_route_61 B _ _ _ _ ?_
      rw [if_neg (by rw [show (-1 : Int32) = m1 from rfl, eq_m1 (by omega)]; exact id)]
      refine e_Desk_route_85 B _ _ _ _ ?_
      simp (disch := omega) only [bs_pI, cc_pI, cs_pI, sh_pI, gR_pI, eI_pI, eR_pI, eL_pI, bs_pR, cc_pR, cs_pR, sh_pR, gI_pR, eI_pR, eR_pR, eL_pR, bs_uI, cc_uI, cs_uI, sh_uI, gI_uI, gR_uI, eR_uI, eL_uI, bs_uR, cc_uR, cs_uR, sh_uR, gI_uR, gR_uR, eI_uR, eL_uR, bs_uL, cc_uL, cs_uL, sh_uL, gI_uL, gR_uL, eI_uL, eR_uL, gI_s, gI_d, gR_s, gR_d, eI_s, eI_d, eI_e, eR_s, eR_d, eR_e, eL_s, eL_d, bs_bump, cc_bump, cs_bump, sh_bump, gI_bump, gR_bump, eI_bump, eR_bump, eL_bump, l_0, l_1, l_2, l_3, l_4, l_5, l_6, l_7, l_8, l_9, l_10, l_11, l_12, l_13, l_14, l_15, l_16, l_17, l_18, l_19, l_20, l_21, l_22, l_23, l_24, l_25, l_26, l_27, l_28, l_29, l_30, l_31, l_32, l_33, l_34, l_35, l_36, l_37, l_38, l_39, l_40, l_41, l_42, l_43, l_44, l_45, l_46, l_47, l_48, l_49, l_50, l_51, l_52, l_53, l_54, l_55, l_56, l_57, l_58, l_59, l_60, l_61, l_62, l_63, l_64, l_65, l_66, l_67, l_68, l_69, l_70, l_71, l_72, l_73, l_74, l_75, l_76, l_77, l_78, l_79, l_80, l_81, l_82, l_83, l_84, l_85, l_86, l_87, l_88, l_89, l_90, l_91, l_92, l_93, l_94, l_95, l_96, l_97, l_98, l_99, l_100, l_101, l_102, l_103, l_104, l_105, l_106, l_107, l_108, l_109, l_110, l_111, l_112, l_113, l_114, l_115, l_116, l_117, l_118, l_119, l_120, l_121, l_122, l_123, l_124, l_125, l_126, l_127, l_128, l_129, l_130, l_256, l_512, l_676, l_704, l_999, l_1000, l_4096, l_17576, l_32768, l_65535, l_456975, l_456976, l_m1, l_m2, in_iff, eq_m1, m1_eq, m1_lt, m1_le, le_m1, lt_m1, eq_m2, m2_m1, m1_m2, add_m1, m1_add, sub_n, mul_n, add_n, bo_n0, bo_n1, ch_n, lt_n, le_n, eq_n, ix_n, i2c_n, rem_n, div_n, kI_i, kI_x, kV_v, kV_x, kR_r, kR_n, kR_x, kHI_i, kHI_0, kHI_1, kHV_v, kHV_0, kHV_1, va_s, va_n, exists_eq_left', exists_eq_left, forall_eq, forall_eq', and_true, true_and, and_self, Option.some.injEq, Prod.mk.injEq, if_tt, if_ff, reduceIte, reduceCtorEq, not_true_eq_false, not_false_eq_true, Nat.reduceAdd, Nat.reduceMul, Nat.reduceSub, Nat.reduceLT, Nat.reduceLeDiff, Nat.reduceEqDiff, false_implies, true_implies, implies_true, a1, a5, r1, r2, r3]
      refine ⟨by omega, ?_⟩
      rw [r4 _ (by omega)]
      simp (disch := omega) only [kI_i, kI_x, kV_v, kV_x, kR_r, kR_n, kR_x, kHI_i, kHI_0, kHI_1, kHV_v, kHV_0, kHV_1, va_s, va_n, exists_eq_left', exists_eq_left, forall_eq, forall_eq', and_true, true_and, and_self, Option.some.injEq, Prod.mk.injEq, if_tt, if_ff, reduceIte, reduceCtorEq, not_true_eq_false, not_false_eq_true, Nat.reduceAdd, Nat.reduceMul, Nat.reduceSub, Nat.reduceLT, Nat.reduceLeDiff, Nat.reduceEqDiff, false_implies, true_implies, implies_true, bs_pI, cc_pI, cs_pI, sh_pI, gR_pI, eI_pI, eR_pI, eL_pI, bs_pR, cc_pR, cs_pR, sh_pR, gI_pR, eI_pR, eR_pR, eL_pR, bs_uI, cc_uI, cs_uI, sh_uI, gI_uI, gR_uI, eR_uI, eL_uI, bs_uR, cc_uR, cs_uR, sh_uR, gI_uR, gR_uR, eI_uR, eL_uR, bs_uL, cc_uL, cs_uL, sh_uL, gI_uL, gR_uL, eI_uL, eR_uL, gI_s, gI_d, gR_s, gR_d, eI_s, eI_d, eI_e, eR_s, eR_d, eR_e, eL_s, eL_d, bs_bump, cc_bump, cs_bump, sh_bump, gI_bump, gR_bump, eI_bump, eR_bump, eL_bump, ht.1]
      obtain ⟨t1, t2, t3, t4, t5, t6, t7, t8, t9, t10, t11, t12, t13⟩ := ht
      have f1 : Fr (nP (B + 4 + 2 + 2 * rix S.2.2.2 i)) σ (pI (pI σ 513 (B + 4 + 2 + 2 * rix S.2.2.2 i) (nI c)) 514 (B + 4 + 2 + 2 * rix S.2.2.2 i) (nI a)) := (Fr.pI (Or.inl rfl)).tr (Fr.pI (Or.inl rfl))
      refine hkO hnb hnf _ (hC.rout (f1.mo (fun q hq => by unfold nP at hq; omega)) ?_) (f1.mo (fun q hq => by unfold nP at hq; unfold dP; omega))
      unfold rtR
      rw [if_pos hx]
      refine hr0.set hx f1 ⟨t1, t2, t3, ?_, ?_, ?_, ?_, by simp, fun j hj => absurd hj (Nat.not_lt_zero j), hi, hc, ha, fun m hm => by cases hm⟩
      · simp (disch := omega) only [bs_pI, cc_pI, cs_pI, sh_pI, gR_pI, eI_pI, eR_pI, eL_pI, bs_pR, cc_pR, cs_pR, sh_pR, gI_pR, eI_pR, eR_pR, eL_pR, bs_uI, cc_uI, cs_uI, sh_uI, gI_uI, gR_uI, eR_uI, eL_uI, bs_uR, cc_uR, cs_uR, sh_uR, gI_uR, gR_uR, eI_uR, eL_uR, bs_uL, cc_uL, cs_uL, sh_uL, gI_uL, gR_uL, eI_uL, eR_uL, gI_s, gI_d, gR_s, gR_d, eI_s, eI_d, eI_e, eR_s, eR_d, eR_e, eL_s, eL_d, bs_bump, cc_bump, cs_bump, sh_bump, gI_bump, gR_bump, eI_bump, eR_bump, eL_bump, t4]; rw [hrs.2.2 hx]
      · simp (disch := omega) only [bs_pI, cc_pI, cs_pI, sh_pI, gR_pI, eI_pI, eR_pI, eL_pI, bs_pR, cc_pR, cs_pR, sh_pR, gI_pR, eI_pR, eR_pR, eL_pR, bs_uI, cc_uI, cs_uI, sh_uI, gI_uI, gR_uI, eR_uI, eL_uI, bs_uR, cc_uR, cs_uR, sh_uR, gI_uR, gR_uR, eI_uR, eL_uR, bs_uL, cc_uL, cs_uL, sh_uL, gI_uL, gR_uL, eI_uL, eR_uL, gI_s, gI_d, gR_s, gR_d, eI_s, eI_d, eI_e, eR_s, eR_d, eR_e, eL_s, eL_d, bs_bump, cc_bump, cs_bump, sh_bump, gI_bump, gR_bump, eI_bump, eR_bump, eL_bump]
      · simp (disch := omega) only [bs_pI, cc_pI, cs_pI, sh_pI, gR_pI, eI_pI, eR_pI, eL_pI, bs_pR, cc_pR, cs_pR, sh_pR, gI_pR, eI_pR, eR_pR, eL_pR, bs_uI, cc_uI, cs_uI, sh_uI, gI_uI, gR_uI, eR_uI, eL_uI, bs_uR, cc_uR, cs_uR, sh_uR, gI_uR, gR_uR, eI_uR, eL_uR, bs_uL, cc_uL, cs_uL, sh_uL, gI_uL, gR_uL, eI_uL, eR_uL, gI_s, gI_d, gR_s, gR_d, eI_s, eI_d, eI_e, eR_s, eR_d, eR_e, eL_s, eL_d, bs_bump, cc_bump, cs_bump, sh_bump, gI_bump, gR_bump, eI_bump, eR_bump, eL_bump]
      · simp (disch := omega) only [bs_pI, cc_pI, cs_pI, sh_pI, gR_pI, eI_pI, eR_pI, eL_pI, bs_pR, cc_pR, cs_pR, sh_pR, gI_pR, eI_pR, eR_pR, eL_pR, bs_uI, cc_uI, cs_uI, sh_uI, gI_uI, gR_uI, eR_uI, eL_uI, bs_uR, cc_uR, cs_uR, sh_uR, gI_uR, gR_uR, eI_uR, eL_uR, bs_uL, cc_uL, cs_uL, sh_uL, gI_uL, gR_uL, eI_uL, eR_uL, gI_s, gI_d, gR_s, gR_d, eI_s, eI_d, eI_e, eR_s, eR_d, eR_e, eL_s, eL_d, bs_bump, cc_bump, cs_bump, sh_bump, gI_bump, gR_bump, eI_bump, eR_bump, eL_bump, t7]; rw [hg]
    · rw [decide_eq_true hg, if_neg (by decide)]
      exact ⟨by have := hR.1; omega, by have := hR.2; omega, hkB ⟨hx, hg⟩⟩
  · have hnb : ¬ rtBad S.2.2.2 i := fun q => hx q.1
    rw [if_neg hx, if_pos (show m1 = -1 from rfl)]
    refine e_Desk_route_61 B _ _ _ _ ?_
    rw [if_pos (show m1 = -1 from rfl)]
    simp only [a1, a5, kI_i, kI_x, kV_v, kV_x, kR_r, kR_n, kR_x, kHI_i, kHI_0, kHI_1, kHV_v, kHV_0, kHV_1, va_s, va_n, exists_eq_left', exists_eq_left, forall_eq, forall_eq', and_true, true_and, and_self, Option.some.injEq, Prod.mk.injEq, if_tt, if_ff, reduceIte, reduceCtorEq, not_true_eq_false, not_false_eq_true, Nat.reduceAdd, Nat.reduceMul, Nat.reduceSub, Nat.reduceLT, Nat.reduceLeDiff, Nat.reduceEqDiff, false_implies, true_implies, implies_true]
    refine ⟨r1, c_Routes_isFull hr0 ?_⟩
    simp only [kI_i]
    by_cases hful : S.2.2.2.length = 12
    · rw [decide_eq_true hful, if_neg (by decide)]
      exact ⟨by have := hR.1; omega, by have := hR.2; omega, hkF hnb ⟨hx, hful⟩⟩
    · have hnf : ¬ rtFull S.2.2.2 i := fun q => hful q.2
      rw [decide_eq_false hful, if_pos (by decide)]
      refine e_Desk_route_85 B _ _ _ _ ?_
      simp only [a1, a5, r1, r2, kI_i, kI_x, kV_v, kV_x, kR_r, kR_n, kR_x, kHI_i, kHI_0, kHI_1, kHV_v, kHV_0, kHV_1, va_s, va_n, exists_eq_left', exists_eq_left, forall_eq, forall_eq', and_true, true_and, and_self, Option.some.injEq, Prod.mk.injEq, if_tt, if_ff, reduceIte, reduceCtorEq, not_true_eq_false, not_false_eq_true, Nat.reduceAdd, Nat.reduceMul, Nat.reduceSub, Nat.reduceLT, Nat.reduceLeDiff, Nat.reduceEqDiff, false_implies, true_implies, implies_true]
      rw [if_pos (show m1 = -1 from rfl)]
      refine c_Routes_newRow hr0 (by omega) hi (fun σ1 g1 f1 => ?_)
      have g0 := g1
      obtain ⟨s1, s2, s3, s4, s5, s6, s7⟩ := g1
      simp only [kI_i]
      refine ⟨12, s3, in_n (by omega) (by decide), ?_⟩
      rw [ix_n (by omega), s4 _ (by omega)]
      have ht := s7 S.2.2.2.length (by omega)
      rw [getD_snoc0] at ht
      simp (disch := omega) only [kI_i, kI_x, kV_v, kV_x, kR_r, kR_n, kR_x, kHI_i, kHI_0, kHI_1, kHV_v, kHV_0, kHV_1, va_s, va_n, exists_eq_left', exists_eq_left, forall_eq, forall_eq', and_true, true_and, and_self, Option.some.injEq, Prod.mk.injEq, if_tt, if_ff, reduceIte, reduceCtorEq, not_true_eq_false, not_false_eq_true, Nat.reduceAdd, Nat.reduceMul, Nat.reduceSub, Nat.reduceLT, Nat.reduceLeDiff, Nat.reduceEqDiff, false_implies, true_implies, implies_true, bs_pI, cc_pI, cs_pI, sh_pI, gR_pI, eI_pI, eR_pI, eL_pI, bs_pR, cc_pR, cs_pR, sh_pR, gI_pR, eI_pR, eR_pR, eL_pR, bs_uI, cc_uI, cs_uI, sh_uI, gI_uI, gR_uI, eR_uI, eL_uI, bs_uR, cc_uR, cs_uR, sh_uR, gI_uR, gR_uR, eI_uR, eL_uR, bs_uL, cc_uL, cs_uL, sh_uL, gI_uL, gR_uL, eI_uL, eR_uL, gI_s, gI_d, gR_s, gR_d, eI_s, eI_d, eI_e, eR_s, eR_d, eR_e, eL_s, eL_d, bs_bump, cc_bump, cs_bump, sh_bump, gI_bump, gR_bump, eI_bump, eR_bump, eL_bump, ht.1]
      obtain ⟨t1, t2, t3, t4, t5, t6, t7, t8, t9, t10, t11, t12, t13⟩ := ht
      have f2 : Fr (nP (B + 4 + 2 + 2 * S.2.2.2.length)) σ1 (pI (pI σ1 513 (B + 4 + 2 + 2 * S.2.2.2.length) (nI c)) 514 (B + 4 + 2 + 2 * S.2.2.2.length) (nI a)) := (Fr.pI (Or.inl rfl)).tr (Fr.pI (Or.inl rfl))
      have f3 := f1.tr (f2.mo (fun q hq => by unfold nP at hq; omega))
      refine hkO hnb hnf _ (hC.rout f3 ?_) (f3.mo (fun q hq => by unfold dP; omega))
      unfold rtR
      rw [if_neg hx]
      have := g0.set (i := S.2.2.2.length) (r := (i, c, a, [])) (by simp) f2 ⟨t1, t2, t3, ?_, ?_, ?_, ?_, by simp, fun j hj => absurd hj (Nat.not_lt_zero j), hi, hc, ha, fun m hm => by cases hm⟩
      · rw [set_snoc] at this; exact this
      · simp (disch := omega) only [bs_pI, cc_pI, cs_pI, sh_pI, gR_pI, eI_pI, eR_pI, eL_pI, bs_pR, cc_pR, cs_pR, sh_pR, gI_pR, eI_pR, eR_pR, eL_pR, bs_uI, cc_uI, cs_uI, sh_uI, gI_uI, gR_uI, eR_uI, eL_uI, bs_uR, cc_uR, cs_uR, sh_uR, gI_uR, gR_uR, eI_uR, eL_uR, bs_uL, cc_uL, cs_uL, sh_uL, gI_uL, gR_uL, eI_uL, eR_uL, gI_s, gI_d, gR_s, gR_d, eI_s, eI_d, eI_e, eR_s, eR_d, eR_e, eL_s, eL_d, bs_bump, cc_bump, cs_bump, sh_bump, gI_bump, gR_bump, eI_bump, eR_bump, eL_bump, t4]
      · simp (disch := omega) only [bs_pI, cc_pI, cs_pI, sh_pI, gR_pI, eI_pI, eR_pI, eL_pI, bs_pR, cc_pR, cs_pR, sh_pR, gI_pR, eI_pR, eR_pR, eL_pR, bs_uI, cc_uI, cs_uI, sh_uI, gI_uI, gR_uI, eR_uI, eL_uI, bs_uR, cc_uR, cs_uR, sh_uR, gI_uR, gR_uR, eI_uR, eL_uR, bs_uL, cc_uL, cs_uL, sh_uL, gI_uL, gR_uL, eI_uL, eR_uL, gI_s, gI_d, gR_s, gR_d, eI_s, eI_d, eI_e, eR_s, eR_d, eR_e, eL_s, eL_d, bs_bump, cc_bump, cs_bump, sh_bump, gI_bump, gR_bump, eI_bump, eR_bump, eL_bump]
      · simp (disch := omega) only [bs_pI, cc_pI, cs_pI, sh_pI, gR_pI, eI_pI, eR_pI, eL_pI, bs_pR, cc_pR, cs_pR, sh_pR, gI_pR, eI_pR, eR_pR, eL_pR, bs_uI, cc_uI, cs_uI, sh_uI, gI_uI, gR_uI, eR_uI, eL_uI, bs_uR, cc_uR, cs_uR, sh_uR, gI_uR, gR_uR, eI_uR, eL_uR, bs_uL, cc_uL, cs_uL, sh_uL, gI_uL, gR_uL, eI_uL, eR_uL, gI_s, gI_d, gR_s, gR_d, eI_s, eI_d, eI_e, eR_s, eR_d, eR_e, eL_s, eL_d, bs_bump, cc_bump, cs_bump, sh_bump, gI_bump, gR_bump, eI_bump, eR_bump, eL_bump]
      · simp (disch := omega) only [bs_pI, cc_pI, cs_pI, sh_pI, gR_pI, eI_pI, eR_pI, eL_pI, bs_pR, cc_pR, cs_pR, sh_pR, gI_pR, eI_pR, eR_pR, eL_pR, bs_uI, cc_uI, cs_uI, sh_uI, gI_uI, gR_uI, eR_uI, eL_uI, bs_uR, cc_uR, cs_uR, sh_uR, gI_uR, gR_uR, eI_uR, eL_uR, bs_uL, cc_uL, cs_uL, sh_uL, gI_uL, gR_uL, eI_uL, eR_uL, gI_s, gI_d, gR_s, gR_d, eI_s, eI_d, eI_e, eR_s, eR_d, eR_e, eL_s, eL_d, bs_bump, cc_bump, cs_bump, sh_bump, gI_bump, gR_bump, eI_bump, eR_bump, eL_bump, t7]
theorem k_group {x y : Int32} (hC : CR σ B S) (hR : Rm σ) (hkA : (x < 0 ∨ ¬ x ≤ 456975) ∨ (y < 0 ∨ ¬ y ≤ 456975) → K (.inr 0) (bump σ 1 6)) (hk : ∀ i m, i < 456976 → m < 456976 → x = nI i → y = nI m → (gpBad S.2.2.2 i m → K (.inr 0) (bump σ 1 6)) ∧ (¬ gpBad S.2.2.2 i m → gpFull S.2.2.2 i → K (.inr 1) (bump σ 1 6)) ∧ (¬ gpBad S.2.2.2 i m → ¬ gpFull S.2.2.2 i → ∀ σ', CR σ' B (uR' S (gpR S.2.2.2 i m)) → Fr (dP B) σ σ' → K (.inl (some (.int (nI (gpN S.2.2.2 i))))) σ')) : PW (d + 7) M_Desk_group 0 [.ref B, .int x, .int y, uu] [] σ K := by
  obtain ⟨a1, a2, a3, a4, a5, a6, a7, a8, a9, a10, a11, a12, a13, a14⟩ := hC.1
  refine e_Desk_group_0 B x y (c_needWithin hR (fun h1 h2 => ?_) (fun h => hkA (Or.inl h)))
  refine c_needWithin hR (fun h3 h4 => ?_) (fun h => hkA (Or.inr h))
  obtain ⟨i, hi, rfl⟩ := codeN h1 h2
  obtain ⟨m, hm, rfl⟩ := codeN h3 h4
  obtain ⟨hkB, hkF, hkO⟩ := hk i m hi hm rfl rfl
  have hr := hC.2.1
  have hr0 := hr
  obtain ⟨r1, r2, r3, r4, r5, r6, r7⟩ := hr
  have hrs := rix_spec S.2.2.2 i
  have thr0 : gpBad S.2.2.2 i m → cc σ + 1 ≤ 601024 ∧ cs σ + 6 ≤ 7293034 ∧ K (.inr 0) (bump σ 1 6) := fun q => ⟨hR.1, hR.2, hkB q⟩
  simp (disch := omega) only [kV_v, eq_n]
  by_cases him : i = m
  · rw [if_pos him]; exact thr0 (Or.inl him)
  · rw [if_neg him]
    simp only [a1, a5, kI_i, kI_x, kV_v, kV_x, kR_r, kR_n, kR_x, kHI_i, kHI_0, kHI_1, kHV_v, kHV_0, kHV_1, va_s, va_n, exists_eq_left', exists_eq_left, forall_eq, forall_eq', and_true, true_and, and_self, Option.some.injEq, Prod.mk.injEq, if_tt, if_ff, reduceIte, reduceCtorEq, not_true_eq_false, not_false_eq_true, Nat.reduceAdd, Nat.reduceMul, Nat.reduceSub, Nat.reduceLT, Nat.reduceLeDiff, Nat.reduceEqDiff, false_implies, true_implies, implies_true]
    refine ⟨r1, c_Routes_leadsTo hr0 hm hi (fun b hb => ?_)⟩
    simp only [kI_i]
    cases b with
    | true =>
      rw [if_neg (by decide)]
      exact ⟨by have := hR.1; omega, by have := hR.2; omega, hkB (Or.inr (Or.inl (hb.mp rfl)))⟩
    | false =>
      have hnl : ¬ Lds S.2.2.2 m i := fun q => absurd (hb.mpr q) (by decide)
      rw [if_pos (by decide)]
      simp only [a1, a5, kI_i, kI_x, kV_v, kV_x, kR_r, kR_n, kR_x, kHI_i, kHI_0, kHI_1, kHV_v, kHV_0, kHV_1, va_s, va_n, exists_eq_left', exists_eq_left, forall_eq, forall_eq', and_true, true_and, and_self, Option.some.injEq, Prod.mk.injEq, if_tt, if_ff, reduceIte, reduceCtorEq, not_true_eq_false, not_false_eq_true, Nat.reduceAdd, Nat.reduceMul, Nat.reduceSub, Nat.reduceLT, Nat.reduceLeDiff, Nat.reduceEqDiff, false_implies, true_implies, implies_true]
      refine ⟨r1, c_Routes_rowOf hr0 hi ?_⟩
      simp only [kI_i]
      by_cases hx : rix S.2.2.2 i < S.2.2.2.length
      · rw [if_pos hx, if_neg (by rw [show (-1 : Int32) = m1 from rfl, eq_m1 (by omega)]; exact id)]
        have ht := r7 (rix S.2.2.2 i) (by omega)
        simp (disch := omega) only [bs_pI, cc_pI, cs_pI, sh_pI, gR_pI, eI_pI, eR_pI, eL_pI, bs_pR, cc_pR, cs_pR, sh_pR, gI_pR, eI_pR, eR_pR, eL_pR, bs_uI, cc_uI, cs_uI, sh_uI, gI_uI, gR_uI, eR_uI, eL_uI, bs_uR, cc_uR, cs_uR, sh_uR, gI_uR, gR_uR, eI_uR, eL_uR, bs_uL, cc_uL, cs_uL, sh_uL, gI_uL, gR_uL, eI_uL, eR_uL, gI_s, gI_d, gR_s, gR_d, eI_s, eI_d, eI_e, eR_s, eR_d, eR_e, eL_s, eL_d, bs_bump, cc_bump, cs_bump, sh_bump, gI_bump, gR_bump, eI_bump, eR_bump, eL_bump, l_0, l_1, l_2, l_3, l_4, l_5, l_6, l_7, l_8, l_9, l_10, l_11, l_12, l_13, l_14, l_15, l_16, l_17, l_18, l_19, l_20, l_21, l_22, l_23, l_24, l_25, l_26, l_27, l_28, l_29, l_30, l_31, l_32, l_33, l_34, l_35, l_36, l_37, l_38, l_39, l_40, l_41, l_42, l_43, l_44, l_45, l_46, l_47, l_48, l_49, l_50, l_51, l_52, l_53, l_54, l_55, l_56, l_57, l_58, l_59, l_60, l_61, l_62, l_63, l_64, l_65, l_66, l_67, l_68, l_69, l_70, l_71, l_72, l_73, l_74, l_75, l_76, l_77, l_78, l_79, l_80, l_81, l_82, l_83, l_84, l_85, l_86, l_87, l_88, l_89, l_90, l_91, l_92, l_93, l_94, l_95, l_96, l_97, l_98, l_99, l_100, l_101, l_102, l_103, l_104, l_105, l_106, l_107, l_108, l_109, l_110, l_111, l_112, l_113, l_114, l_115, l_116, l_117, l_118, l_119, l_120, l_121, l_122, l_123, l_124, l_125, l_126, l_127, l_128, l_129, l_130, l_256, l_512, l_676, l_704, l_999, l_1000, l_4096, l_17576, l_32768, l_65535, l_456975, l_456976, l_m1, l_m2, in_iff, eq_m1, m1_eq, m1_lt, m1_le, le_m1, lt_m1, eq_m2, m2_m1, m1_m2, add_m1, m1_add, sub_n, mul_n, add_n, bo_n0, bo_n1, ch_n, lt_n, le_n, eq_n, ix_n, i2c_n, rem_n, div_n, kI_i, kI_x, kV_v, kV_x, kR_r, kR_n, kR_x, kHI_i, kHI_0, kHI_1, kHV_v, kHV_0, kHV_1, va_s, va_n, exists_eq_left', exists_eq_left, forall_eq, forall_eq', and_true, true_and, and_self, Option.some.injEq, Prod.mk.injEq, if_tt, if_ff, reduceIte, reduceCtorEq, not_true_eq_false, not_false_eq_true, Nat.reduceAdd, Nat.reduceMul, Nat.reduceSub, Nat.reduceLT, Nat.reduceLeDiff, Nat.reduceEqDiff, false_implies, true_implies, implies_true, a1, a5, r1, r2, r3]
        rw [r4 _ (by omega)]
        simp (disch := omega) only [kI_i, kI_x, kV_v, kV_x, kR_r, kR_n, kR_x, kHI_i, kHI_0, kHI_1, kHV_v, kHV_0, kHV_1, va_s, va_n, exists_eq_left', exists_eq_left, forall_eq, forall_eq', and_true, true_and, and_self, Option.some.injEq, Prod.mk.injEq, if_tt, if_ff, reduceIte, reduceCtorEq, not_true_eq_false, not_false_eq_true, Nat.reduceAdd, Nat.reduceMul, Nat.reduceSub, Nat.reduceLT, Nat.reduceLeDiff, Nat.reduceEqDiff, false_implies, true_implies, implies_true, ht.1]
        refine ⟨by omega, c_Route_isGroup ht ?_⟩
        simp only [kI_i]
        by_cases hg : (S.2.2.2.getD (rix S.2.2.2 i) r0).2.2.2 = []
        · rw [decide_eq_false (fun q => q hg), if_pos (by decide)]
          exact ⟨by have := hR.1; omega, by have := hR.2; omega, hkB (Or.inr (Or.inr ⟨hx, Or.inl hg⟩))⟩
        · rw [decide_eq_true hg, if_neg (by decide)]
          simp (disch := omega) only [bs_pI, cc_pI, cs_pI, sh_pI, gR_pI, eI_pI, eR_pI, eL_pI, bs_pR, cc_pR, cs_pR, sh_pR, gI_pR, eI_pR, eR_pR, eL_pR, bs_uI, cc_uI, cs_uI, sh_uI, gI_uI, gR_uI, eR_uI, eL_uI, bs_uR, cc_uR, cs_uR, sh_uR, gI_uR, gR_uR, eI_uR, eL_uR, bs_uL, cc_uL, cs_uL, sh_uL, gI_uL, gR_uL, eI_uL, eR_uL, gI_s, gI_d, gR_s, gR_d, eI_s, eI_d, eI_e, eR_s, eR_d, eR_e, eL_s, eL_d, bs_bump, cc_bump, cs_bump, sh_bump, gI_bump, gR_bump, eI_bump, eR_bump, eL_bump, l_0, l_1, l_2, l_3, l_4, l_5, l_6, l_7, l_8, l_9, l_10, l_11, l_12, l_13, l_14, l_15, l_16, l_17, l_18, l_19, l_20, l_21, l_22, l_23, l_24, l_25, l_26, l_27, l_28, l_29, l_30, l_31, l_32, l_33, l_34, l_35, l_36, l_37, l_38, l_39, l_40, l_41, l_42, l_43, l_44, l_45, l_46, l_47, l_48, l_49, l_50, l_51, l_52, l_53, l_54, l_55, l_56, l_57, l_58, l_59, l_60, l_61, l_62, l_63, l_64, l_65, l_66, l_67, l_68, l_69, l_70, l_71, l_72, l_73, l_74, l_75, l_76, l_77, l_78, l_79, l_80, l_81, l_82, l_83, l_84, l_85, l_86, l_87, l_88, l_89, l_90, l_91, l_92, l_93, l_94, l_95, l_96, l_97, l_98, l_99, l_100, l_101, l_102, l_103, l_104, l_105, l_106, l_107, l_108, l_109, l_110, l_111, l_112, l_113, l_114, l_115, l_116, l_117, l_118, l_119, l_120, l_121, l_122, l_123, l_124, l_125, l_126, l_127, l_128, l_129, l_130, l_256, l_512, l_676, l_704, l_999, l_1000, l_4096, l_17576, l_32768, l_65535, l_456975, l_456976, l_m1, l_m2, in_iff, eq_m1, m1_eq, m1_lt, m1_le, le_m1, lt_m1, eq_m2, m2_m1, m1_m2, add_m1, m1_add, sub_n, mul_n, add_n, bo_n0, bo_n1, ch_n, lt_n, le_n, eq_n, ix_n, i2c_n, rem_n, div_n, kI_i, kI_x, kV_v, kV_x, kR_r, kR_n, kR_x, kHI_i, kHI_0, kHI_1, kHV_v, kHV_0, kHV_1, va_s, va_n, exists_eq_left', exists_eq_left, forall_eq, forall_eq', and_true, true_and, and_self, Option.some.injEq, Prod.mk.injEq, if_tt, if_ff, reduceIte, reduceCtorEq, not_true_eq_false, not_false_eq_true, Nat.reduceAdd, Nat.reduceMul, Nat.reduceSub, Nat.reduceLT, Nat.reduceLeDiff, Nat.reduceEqDiff, false_implies, true_implies, implies_true, a1, a5, r1, r2, r3]
          rw [r4 _ (by omega)]
          simp (disch := omega) only [kI_i, kI_x, kV_v, kV_x, kR_r, kR_n, kR_x, kHI_i, kHI_0, kHI_1, kHV_v, kHV_0, kHV_1, va_s, va_n, exists_eq_left', exists_eq_left, forall_eq, forall_eq', and_true, true_and, and_self, Option.some.injEq, Prod.mk.injEq, if_tt, if_ff, reduceIte, reduceCtorEq, not_true_eq_false, not_false_eq_true, Nat.reduceAdd, Nat.reduceMul, Nat.reduceSub, Nat.reduceLT, Nat.reduceLeDiff, Nat.reduceEqDiff, false_implies, true_implies, implies_true, ht.1]
          refine ⟨by omega, c_Route_holds ht hm (fun b2 hb2 => ?_)⟩
          simp only [kI_i]
          cases b2 with
          | true =>
            rw [if_neg (by decide)]
            exact ⟨by have := hR.1; omega, by have := hR.2; omega, hkB (Or.inr (Or.inr ⟨hx, Or.inr (hb2.mp rfl)⟩))⟩
          | false =>
            have hnm : ¬ m ∈ (S.2.2.2.getD (rix S.2.2.2 i) r0).2.2.2 := fun q => absurd (hb2.mpr q) (by decide)
            have hnb : ¬ gpBad S.2.2.2 i m := by
              rintro (q | q | ⟨-, q | q⟩)
              · exact him q
              · exact hnl q
              · exact hg q
              · exact hnm q
            rw [if_pos (by decide)]
            refine e_Desk_group_92 B _ _ _ ?_
            rw [if_neg (by rw [show (-1 : Int32) = m1 from rfl, eq_m1 (by omega)]; exact id)]
            have h8 := ht.2.2.2.2.2.2.2.1
            simp (disch := omega) only [bs_pI, cc_pI, cs_pI, sh_pI, gR_pI, eI_pI, eR_pI, eL_pI, bs_pR, cc_pR, cs_pR, sh_pR, gI_pR, eI_pR, eR_pR, eL_pR, bs_uI, cc_uI, cs_uI, sh_uI, gI_uI, gR_uI, eR_uI, eL_uI, bs_uR, cc_uR, cs_uR, sh_uR, gI_uR, gR_uR, eI_uR, eL_uR, bs_uL, cc_uL, cs_uL, sh_uL, gI_uL, gR_uL, eI_uL, eR_uL, gI_s, gI_d, gR_s, gR_d, eI_s, eI_d, eI_e, eR_s, eR_d, eR_e, eL_s, eL_d, bs_bump, cc_bump, cs_bump, sh_bump, gI_bump, gR_bump, eI_bump, eR_bump, eL_bump, l_0, l_1, l_2, l_3, l_4, l_5, l_6, l_7, l_8, l_9, l_10, l_11, l_12, l_13, l_14, l_15, l_16, l_17, l_18, l_19, l_20, l_21, l_22, l_23, l_24, l_25, l_26, l_27, l_28, l_29, l_30, l_31, l_32, l_33, l_34, l_35, l_36, l_37, l_38, l_39, l_40, l_41, l_42, l_43, l_44, l_45, l_46, l_47, l_48, l_49, l_50, l_51, l_52, l_53, l_54, l_55, l_56, l_57, l_58, l_59, l_60, l_61, l_62, l_63, l_64, l_65, l_66, l_67, l_68, l_69, l_70, l_71, l_72, l_73, l_74, l_75, l_76, l_77, l_78, l_79, l_80, l_81, l_82, l_83, l_84, l_85, l_86, l_87, l_88, l_89, l_90, l_91, l_92, l_93, l_94, l_95, l_96, l_97, l_98, l_99, l_100, l_101, l_102, l_103, l_104, l_105, l_106, l_107, l_108, l_109, l_110, l_111, l_112, l_113, l_114, l_115, l_116, l_117, l_118, l_119, l_120, l_121, l_122, l_123, l_124, l_125, l_126, l_127, l_128, l_129, l_130, l_256, l_512, l_676, l_704, l_999, l_1000, l_4096, l_17576, l_32768, l_65535, l_456975, l_456976, l_m1, l_m2, in_iff, eq_m1, m1_eq, m1_lt, m1_le, le_m1, lt_m1, eq_m2, m2_m1, m1_m2, add_m1, m1_add, sub_n, mul_n, add_n, bo_n0, bo_n1, ch_n, lt_n, le_n, eq_n, ix_n, i2c_n, rem_n, div_n, kI_i, kI_x, kV_v, kV_x, kR_r, kR_n, kR_x, kHI_i, kHI_0, kHI_1, kHV_v, kHV_0, kHV_1, va_s, va_n, exists_eq_left', exists_eq_left, forall_eq, forall_eq', and_true, true_and, and_self, Option.some.injEq, Prod.mk.injEq, if_tt, if_ff, reduceIte, reduceCtorEq, not_true_eq_false, not_false_eq_true, Nat.reduceAdd, Nat.reduceMul, Nat.reduceSub, Nat.reduceLT, Nat.reduceLeDiff, Nat.reduceEqDiff, false_implies, true_implies, implies_true, a1, a5, r1, r2, r3]
            rw [r4 _ (by omega)]
            simp (disch := omega) only [bs_pI, cc_pI, cs_pI, sh_pI, gR_pI, eI_pI, eR_pI, eL_pI, bs_pR, cc_pR, cs_pR, sh_pR, gI_pR, eI_pR, eR_pR, eL_pR, bs_uI, cc_uI, cs_uI, sh_uI, gI_uI, gR_uI, eR_uI, eL_uI, bs_uR, cc_uR, cs_uR, sh_uR, gI_uR, gR_uR, eI_uR, eL_uR, bs_uL, cc_uL, cs_uL, sh_uL, gI_uL, gR_uL, eI_uL, eR_uL, gI_s, gI_d, gR_s, gR_d, eI_s, eI_d, eI_e, eR_s, eR_d, eR_e, eL_s, eL_d, bs_bump, cc_bump, cs_bump, sh_bump, gI_bump, gR_bump, eI_bump, eR_bump, eL_bump, l_0, l_1, l_2, l_3, l_4, l_5, l_6, l_7, l_8, l_9, l_10, l_11, l_12, l_13, l_14, l_15, l_16, l_17, l_18, l_19, l_20, l_21, l_22, l_23, l_24, l_25, l_26, l_27, l_28, l_29, l_30, l_31, l_32, l_33, l_34, l_35, l_36, l_37, l_38, l_39, l_40, l_41, l_42, l_43, l_44, l_45, l_46, l_47, l_48, l_49, l_50, l_51, l_52, l_53, l_54, l_55, l_56, l_57, l_58, l_59, l_60, l_61, l_62, l_63, l_64, l_65, l_66, l_67, l_68, l_69, l_70, l_71, l_72, l_73, l_74, l_75, l_76, l_77, l_78, l_79, l_80, l_81, l_82, l_83, l_84, l_85, l_86, l_87, l_88, l_89, l_90, l_91, l_92, l_93, l_94, l_95, l_96, l_97, l_98, l_99, l_100, l_101, l_102, l_103, l_104, l_105, l_106, l_107, l_108, l_109, l_110, l_111, l_112, l_113, l_114, l_115, l_116, l_117, l_118, l_119, l_120, l_121, l_122, l_123, l_124, l_125, l_126, l_127, l_128, l_129, l_130, l_256, l_512, l_676, l_704, l_999, l_1000, l_4096, l_17576, l_32768, l_65535, l_456975, l_456976, l_m1, l_m2, in_iff, eq_m1, m1_eq, m1_lt, m1_le, le_m1, lt_m1, eq_m2, m2_m1, m1_m2, add_m1, m1_add, sub_n, mul_n, add_n, bo_n0, bo_n1, ch_n, lt_n, le_n, eq_n, ix_n, i2c_n, rem_n, div_n, kI_i, kI_x, kV_v, kV_x, kR_r, kR_n, kR_x, kHI_i, kHI_0, kHI_1, kHV_v, kHV_0, kHV_1, va_s, va_n, exists_eq_left', exists_eq_left, forall_eq, forall_eq', and_true, true_and, and_self, Option.some.injEq, Prod.mk.injEq, if_tt, if_ff, reduceIte, reduceCtorEq, not_true_eq_false, not_false_eq_true, Nat.reduceAdd, Nat.reduceMul, Nat.reduceSub, Nat.reduceLT, Nat.reduceLeDiff, Nat.reduceEqDiff, false_implies, true_implies, implies_true, ht.1, ht.2.2.2.2.2.2.1]
            refine ⟨by omega, ?_⟩
            by_cases h4 : (S.2.2.2.getD (rix S.2.2.2 i) r0).2.2.2.length < 4
            · have hnf : ¬ gpFull S.2.2.2 i := by
                rintro (q | q)
                · exact q.1 hx
                · omega
              rw [if_pos h4]
              refine e_Desk_group_134 B _ _ _ ?_
              simp (disch := omega) only [bs_pI, cc_pI, cs_pI, sh_pI, gR_pI, eI_pI, eR_pI, eL_pI, bs_pR, cc_pR, cs_pR, sh_pR, gI_pR, eI_pR, eR_pR, eL_pR, bs_uI, cc_uI, cs_uI, sh_uI, gI_uI, gR_uI, eR_uI, eL_uI, bs_uR, cc_uR, cs_uR, sh_uR, gI_uR, gR_uR, eI_uR, eL_uR, bs_uL, cc_uL, cs_uL, sh_uL, gI_uL, gR_uL, eI_uL, eR_uL, gI_s, gI_d, gR_s, gR_d, eI_s, eI_d, eI_e, eR_s, eR_d, eR_e, eL_s, eL_d, bs_bump, cc_bump, cs_bump, sh_bump, gI_bump, gR_bump, eI_bump, eR_bump, eL_bump, l_0, l_1, l_2, l_3, l_4, l_5, l_6, l_7, l_8, l_9, l_10, l_11, l_12, l_13, l_14, l_15, l_16, l_17, l_18, l_19, l_20, l_21, l_22, l_23, l_24, l_25, l_26, l_27, l_28, l_29, l_30, l_31, l_32, l_33, l_34, l_35, l_36, l_37, l_38, l_39, l_40, l_41, l_42, l_43, l_44, l_45, l_46, l_47, l_48, l_49, l_50, l_51, l_52, l_53, l_54, l_55, l_56, l_57, l_58, l_59, l_60, l_61, l_62, l_63, l_64, l_65, l_66, l_67, l_68, l_69, l_70, l_71, l_72, l_73, l_74, l_75, l_76, l_77, l_78, l_79, l_80, l_81, l_82, l_83, l_84, l_85, l_86, l_87, l_88, l_89, l_90, l_91, l_92, l_93, l_94, l_95, l_96, l_97, l_98, l_99, l_100, l_101, l_102, l_103, l_104, l_105, l_106, l_107, l_108, l_109, l_110, l_111, l_112, l_113, l_114, l_115, l_116, l_117, l_118, l_119, l_120, l_121, l_122, l_123, l_124, l_125, l_126, l_127, l_128, l_129, l_130, l_256, l_512, l_676, l_704, l_999, l_1000, l_4096, l_17576, l_32768, l_65535, l_456975, l_456976, l_m1, l_m2, in_iff, eq_m1, m1_eq, m1_lt, m1_le, le_m1, lt_m1, eq_m2, m2_m1, m1_m2, add_m1, m1_add, sub_n, mul_n, add_n, bo_n0, bo_n1, ch_n, lt_n, le_n, eq_n, ix_n, i2c_n, rem_n, div_n, kI_i, kI_x, kV_v, kV_x, kR_r, kR_n, kR_x, kHI_i, kHI_0, kHI_1, kHV_v, kHV_0, kHV_1, va_s, va_n, exists_eq_left', exists_eq_left, forall_eq, forall_eq', and_true, true_and, and_self, Option.some.injEq, Prod.mk.injEq, if_tt, if_ff, reduceIte, reduceCtorEq, not_true_eq_false, not_false_eq_true, Nat.reduceAdd, Nat.reduceMul, Nat.reduceSub, Nat.reduceLT, Nat.reduceLeDiff, Nat.reduceEqDiff, false_implies, true_implies, implies_true, a1, a5, r1, r2, r3]
              refine ⟨by omega, ?_⟩
              rw [r4 _ (by omega)]
              simp (disch := omega) only [kI_i, kI_x, kV_v, kV_x, kR_r, kR_n, kR_x, kHI_i, kHI_0, kHI_1, kHV_v, kHV_0, kHV_1, va_s, va_n, exists_eq_left', exists_eq_left, forall_eq, forall_eq', and_true, true_and, and_self, Option.some.injEq, Prod.mk.injEq, if_tt, if_ff, reduceIte, reduceCtorEq, not_true_eq_false, not_false_eq_true, Nat.reduceAdd, Nat.reduceMul, Nat.reduceSub, Nat.reduceLT, Nat.reduceLeDiff, Nat.reduceEqDiff, false_implies, true_implies, implies_true, ht.1]
              refine c_Route_addMember ht h4 hm (fun σ1 g1 f1 => ?_)
              simp only [kI_i]
              have := hkO hnb hnf σ1 (hC.rout (f1.mo (fun q hq => by unfold nP at hq; omega)) (by unfold gpR; rw [if_pos hx]; exact hr0.set hx f1 g1)) (f1.mo (fun q hq => by unfold nP at hq; unfold dP; omega))
              unfold gpN at this
              rw [if_pos hx] at this
              exact this
            · rw [if_neg h4]
              exact ⟨by have := hR.1; omega, by have := hR.2; omega, hkF hnb (Or.inr ⟨hx, by omega⟩)⟩
      · have hnb : ¬ gpBad S.2.2.2 i m := by
          rintro (q | q | q)
          · exact him q
          · exact hnl q
          · exact hx q.1
        rw [if_neg hx, if_pos (show m1 = -1 from rfl)]
        refine e_Desk_group_92 B _ _ _ ?_
        rw [if_pos (show m1 = -1 from rfl)]
        simp only [a1, a5, kI_i, kI_x, kV_v, kV_x, kR_r, kR_n, kR_x, kHI_i, kHI_0, kHI_1, kHV_v, kHV_0, kHV_1, va_s, va_n, exists_eq_left', exists_eq_left, forall_eq, forall_eq', and_true, true_and, and_self, Option.some.injEq, Prod.mk.injEq, if_tt, if_ff, reduceIte, reduceCtorEq, not_true_eq_false, not_false_eq_true, Nat.reduceAdd, Nat.reduceMul, Nat.reduceSub, Nat.reduceLT, Nat.reduceLeDiff, Nat.reduceEqDiff, false_implies, true_implies, implies_true]
        refine ⟨r1, c_Routes_isFull hr0 ?_⟩
        simp only [kI_i]
        by_cases hful : S.2.2.2.length = 12
        · rw [decide_eq_true hful, if_neg (by decide)]
          exact ⟨by have := hR.1; omega, by have := hR.2; omega, hkF hnb (Or.inl ⟨hx, hful⟩)⟩
        · have hnf : ¬ gpFull S.2.2.2 i := by
            rintro (q | q)
            · exact hful q.2
            · exact hx q.1
          rw [decide_eq_false hful, if_pos (by decide)]
          refine e_Desk_group_134 B _ _ _ ?_
          simp only [a1, a5, r1, r2, kI_i, kI_x, kV_v, kV_x, kR_r, kR_n, kR_x, kHI_i, kHI_0, kHI_1, kHV_v, kHV_0, kHV_1, va_s, va_n, exists_eq_left', exists_eq_left, forall_eq, forall_eq', and_true, true_and, and_self, Option.some.injEq, Prod.mk.injEq, if_tt, if_ff, reduceIte, reduceCtorEq, not_true_eq_false, not_false_eq_true, Nat.reduceAdd, Nat.reduceMul, Nat.reduceSub, Nat.reduceLT, Nat.reduceLeDiff, Nat.reduceEqDiff, false_implies, true_implies, implies_true]
          rw [if_pos (show m1 = -1 from rfl)]
          refine c_Routes_newRow hr0 (by omega) hi (fun σ1 g1 f1 => ?_)
          have g0 := g1
          obtain ⟨s1, s2, s3, s4, s5, s6, s7⟩ := g1
          simp only [kI_i]
          refine ⟨12, s3, in_n (by omega) (by decide), ?_⟩
          rw [ix_n (by omega), s4 _ (by omega)]
          have ht := s7 S.2.2.2.length (by omega)
          rw [getD_snoc0] at ht
          simp (disch := omega) only [kI_i, kI_x, kV_v, kV_x, kR_r, kR_n, kR_x, kHI_i, kHI_0, kHI_1, kHV_v, kHV_0, kHV_1, va_s, va_n, exists_eq_left', exists_eq_left, forall_eq, forall_eq', and_true, true_and, and_self, Option.some.injEq, Prod.mk.injEq, if_tt, if_ff, reduceIte, reduceCtorEq, not_true_eq_false, not_false_eq_true, Nat.reduceAdd, Nat.reduceMul, Nat.reduceSub, Nat.reduceLT, Nat.reduceLeDiff, Nat.reduceEqDiff, false_implies, true_implies, implies_true, ht.1]
          refine c_Route_addMember ht (by simp) hm (fun σ2 g2 f2 => ?_)
          simp only [kI_i]
          have f3 := f1.tr (f2.mo (fun q hq => by unfold nP at hq; omega))
          have := g0.set (i := S.2.2.2.length) (by simp) f2 g2
          rw [set_snoc] at this
          have h9 := hkO hnb hnf σ2 (hC.rout f3 (by unfold gpR; rw [if_neg hx]; exact this)) (f3.mo (fun q hq => by unfold dP; omega))
          unfold gpN at h9
          rw [if_neg hx] at h9
          exact h9
end Desk3
