/-! ===== the contract of Header.faultIn ===== -/
section CHeader3
variable {d : Nat} {σ : PH} {K : PO → PH → Prop} {a t cap : Nat} {xs : List Nat}
/-- what faultIn leaves -/
def HR (σ : PH) (a : Nat) (xs : List Nat) (lg : Bool) : Prop := HD σ a ∧ gI σ 644 a = nI (fle xs) ∧ (flt xs lg ≠ 1 → gI σ 640 a = nI (hNum xs)) ∧ (flt xs lg = 0 → gI σ 641 a = nI (hPrc xs) ∧ HK σ a (hInd xs))
theorem c_Header_fault74 {p : Nat} {σ0 : PH} (hta : t ≠ a ∧ t + 1 ≠ a ∧ t ≠ a + 1) (hl : fle xs < 900) (hp : p ≤ fle xs) (hP : hP3 xs = wd xs (fle xs) p) (hN : hNum xs ≠ 0) (hf0 : Fr (nP a) σ0 σ) (hd : HD σ a) (hx : TX σ t cap xs) (g0 : gI σ 640 a = nI (hNum xs)) (g4 : gI σ 644 a = nI (fle xs)) (g5 : gI σ 645 a = nI (sB xs (fle xs) p)) (g6 : gI σ 646 a = nI (sW xs (fle xs) (sB xs (fle xs) p))) (hk : ∀ σ', HR σ' a xs false → Fr (nP a) σ0 σ' → K (.inl (some (.int (nI (flt xs false))))) σ') : PW (d + 3) M_Header_faultIn 74 [.ref a, .ref t, uu, .int (nI (decide (sB xs (fle xs) p < fle xs)).toNat)] [] σ K := by
  refine e_Header_faultIn_74 a t _ ?_
  have e3 : hPrc xs = 0 → flt xs false = 3 := by
    intro h
    unfold flt; rw [if_neg hN, if_neg (by decide), if_pos h]
  by_cases hb : sB xs (fle xs) p < fle xs
  · have h3 := @sB_facts xs (fle xs) p hp
    have h4 := (@word_iff xs (fle xs) p hp).mpr hb
    have h5 := @sW_facts xs (fle xs) (sB xs (fle xs) p) h3.2.1
    have hw := @wd_some xs (fle xs) p hp hb
    rw [decide_eq_true hb, if_neg (by decide)]
    refine ⟨hd.1, c_Header_isPrecedence ⟨hta.1, hta.2.1⟩ (by omega) (by omega) hd hx g5 g6 (fun σ1 hσ1 g1 => ?_)⟩
    have eP : hPrc xs = prcP xs (sB xs (fle xs) p, sW xs (fle xs) (sB xs (fle xs) p)) := by unfold hPrc; rw [hP, hw]; rfl
    rw [← eP] at g1 ⊢
    subst hσ1
    simp only [kI_i]
    have hd1 : HD (pI σ 641 a (nI (xs.getD (sB xs (fle xs) p) 0) - nI 48)) a := hd
    have f1 : Fr (nP a) σ (pI σ 641 a (nI (xs.getD (sB xs (fle xs) p) 0) - nI 48)) := Fr.pI (Or.inl rfl)
    by_cases hz : hPrc xs = 0
    · rw [hz, if_pos (by decide)]
      have := hk _ ⟨hd1, by simp (disch := omega) only [bs_pI, cc_pI, cs_pI, sh_pI, gR_pI, eI_pI, eR_pI, eL_pI, bs_pR, cc_pR, cs_pR, sh_pR, gI_pR, eI_pR, eR_pR, eL_pR, bs_uI, cc_uI, cs_uI, sh_uI, gI_uI, gR_uI, eR_uI, eL_uI, bs_uR, cc_uR, cs_uR, sh_uR, gI_uR, gR_uR, eI_uR, eL_uR, bs_uL, cc_uL, cs_uL, sh_uL, gI_uL, gR_uL, eI_uL, eR_uL, gI_s, gI_d, gR_s, gR_d, eI_s, eI_d, eI_e, eR_s, eR_d, eR_e, eL_s, eL_d, bs_bump, cc_bump, cs_bump, sh_bump, gI_bump, gR_bump, eI_bump, eR_bump, eL_bump, g4], fun _ => by simp (disch := omega) only [bs_pI, cc_pI, cs_pI, sh_pI, gR_pI, eI_pI, eR_pI, eL_pI, bs_pR, cc_pR, cs_pR, sh_pR, gI_pR, eI_pR, eR_pR, eL_pR, bs_uI, cc_uI, cs_uI, sh_uI, gI_uI, gR_uI, eR_uI, eL_uI, bs_uR, cc_uR, cs_uR, sh_uR, gI_uR, gR_uR, eI_uR, eL_uR, bs_uL, cc_uL, cs_uL, sh_uL, gI_uL, gR_uL, eI_uL, eR_uL, gI_s, gI_d, gR_s, gR_d, eI_s, eI_d, eI_e, eR_s, eR_d, eR_e, eL_s, eL_d, bs_bump, cc_bump, cs_bump, sh_bump, gI_bump, gR_bump, eI_bump, eR_bump, eL_bump, g0], fun q => by rw [e3 hz] at q; omega⟩ (hf0.tr f1)
      rw [e3 hz] at this
      exact this
    · rw [decide_eq_true hz, if_neg (by decide)]
      have hx1 := hx.ag (f1.ag (q := t) (by unfold nP; omega)) (f1.ag (q := t + 1) (by unfold nP; omega))
      refine ⟨hd1.1, c_Header_readsIndicators (p := sW xs (fle xs) (sB xs (fle xs) p)) hl hta h5.2.1 hd1 hx1 (by simp (disch := omega) only [bs_pI, cc_pI, cs_pI, sh_pI, gR_pI, eI_pI, eR_pI, eL_pI, bs_pR, cc_pR, cs_pR, sh_pR, gI_pR, eI_pR, eR_pR, eL_pR, bs_uI, cc_uI, cs_uI, sh_uI, gI_uI, gR_uI, eR_uI, eL_uI, bs_uR, cc_uR, cs_uR, sh_uR, gI_uR, gR_uR, eI_uR, eL_uR, bs_uL, cc_uL, cs_uL, sh_uL, gI_uL, gR_uL, eI_uL, eR_uL, gI_s, gI_d, gR_s, gR_d, eI_s, eI_d, eI_e, eR_s, eR_d, eR_e, eL_s, eL_d, bs_bump, cc_bump, cs_bump, sh_bump, gI_bump, gR_bump, eI_bump, eR_bump, eL_bump, g4]) (by simp (disch := omega) only [bs_pI, cc_pI, cs_pI, sh_pI, gR_pI, eI_pI, eR_pI, eL_pI, bs_pR, cc_pR, cs_pR, sh_pR, gI_pR, eI_pR, eR_pR, eL_pR, bs_uI, cc_uI, cs_uI, sh_uI, gI_uI, gR_uI, eR_uI, eL_uI, bs_uR, cc_uR, cs_uR, sh_uR, gI_uR, gR_uR, eI_uR, eL_uR, bs_uL, cc_uL, cs_uL, sh_uL, gI_uL, gR_uL, eI_uL, eR_uL, gI_s, gI_d, gR_s, gR_d, eI_s, eI_d, eI_e, eR_s, eR_d, eR_e, eL_s, eL_d, bs_bump, cc_bump, cs_bump, sh_bump, gI_bump, gR_bump, eI_bump, eR_bump, eL_bump, g6]) (fun σ2 b hb1 hb2 hg => ?_)⟩
      have eI : hI xs = wd xs (fle xs) (sW xs (fle xs) (sB xs (fle xs) p)) := by unfold hI; rw [hP, hw]; rfl
      rw [← eI] at hb1 hb2
      simp only [kI_i]
      have q0 : gI σ2 640 a = nI (hNum xs) := by rw [hg.2.1]; simp (disch := omega) only [bs_pI, cc_pI, cs_pI, sh_pI, gR_pI, eI_pI, eR_pI, eL_pI, bs_pR, cc_pR, cs_pR, sh_pR, gI_pR, eI_pR, eR_pR, eL_pR, bs_uI, cc_uI, cs_uI, sh_uI, gI_uI, gR_uI, eR_uI, eL_uI, bs_uR, cc_uR, cs_uR, sh_uR, gI_uR, gR_uR, eI_uR, eL_uR, bs_uL, cc_uL, cs_uL, sh_uL, gI_uL, gR_uL, eI_uL, eR_uL, gI_s, gI_d, gR_s, gR_d, eI_s, eI_d, eI_e, eR_s, eR_d, eR_e, eL_s, eL_d, bs_bump, cc_bump, cs_bump, sh_bump, gI_bump, gR_bump, eI_bump, eR_bump, eL_bump, g0]
      have q1 : gI σ2 641 a = nI (hPrc xs) := by rw [hg.2.2.1]; exact g1 hz
      have q4 : gI σ2 644 a = nI (fle xs) := by rw [hg.2.2.2.1]; simp (disch := omega) only [bs_pI, cc_pI, cs_pI, sh_pI, gR_pI, eI_pI, eR_pI, eL_pI, bs_pR, cc_pR, cs_pR, sh_pR, gI_pR, eI_pR, eR_pR, eL_pR, bs_uI, cc_uI, cs_uI, sh_uI, gI_uI, gR_uI, eR_uI, eL_uI, bs_uR, cc_uR, cs_uR, sh_uR, gI_uR, gR_uR, eI_uR, eL_uR, bs_uL, cc_uL, cs_uL, sh_uL, gI_uL, gR_uL, eI_uL, eR_uL, gI_s, gI_d, gR_s, gR_d, eI_s, eI_d, eI_e, eR_s, eR_d, eR_e, eL_s, eL_d, bs_bump, cc_bump, cs_bump, sh_bump, gI_bump, gR_bump, eI_bump, eR_bump, eL_bump, g4]
      cases b with
      | false =>
        rw [if_pos (by decide)]
        have e4 : flt xs false = 4 := by
          unfold flt; rw [if_neg hN, if_neg (by decide), if_neg hz, if_neg (fun q => absurd (hb1.mpr q) (by decide))]
        have := hk σ2 ⟨hg.2.2.2.2, q4, fun _ => q0, fun q => by rw [e4] at q; omega⟩ ((hf0.tr f1).tr hg.1)
        rw [e4] at this
        exact this
      | true =>
        rw [if_neg (by decide)]
        have e0 : flt xs false = 0 := by
          unfold flt; rw [if_neg hN, if_neg (by decide), if_neg hz, if_pos (hb1.mp rfl)]
        have := hk σ2 ⟨hg.2.2.2.2, q4, fun _ => q0, fun _ => ⟨q1, hb2 rfl⟩⟩ ((hf0.tr f1).tr hg.1)
        rw [e0] at this
        exact this
  · rw [decide_eq_false hb, if_pos (by decide)]
    have hz : hPrc xs = 0 := by unfold hPrc; rw [hP, wd_none hp hb]; rfl
    have := hk σ ⟨hd, g4, fun _ => g0, fun q => by rw [e3 hz] at q; omega⟩ hf0
    rw [e3 hz] at this
    exact this
theorem c_Header_faultIn {lg : Bool} (hta : t ≠ a ∧ t + 1 ≠ a ∧ t ≠ a + 1) (hd : HD σ a) (hx : TX σ t cap xs) (hl : cap < 900) (hk : ∀ σ', HR σ' a xs lg → Fr (nP a) σ σ' → K (.inl (some (.int (nI (flt xs lg))))) σ') : PW (d + 3) M_Header_faultIn 0 [.ref a, .ref t, .int (nI lg.toNat), uu] [] σ K := by
  have hle := (fle_spec xs).1
  have hle2 := hx.2.2.2.2.1
  refine e_Header_faultIn_0 a t _ ⟨hx.1, c_Text_firstLineEnd hx ?_⟩
  simp only [kI_i, kI_i, kI_x, kV_v, kV_x, kR_r, kR_n, kR_x, kHI_i, kHI_0, kHI_1, kHV_v, kHV_0, kHV_1, va_s, va_n, exists_eq_left', exists_eq_left, forall_eq, forall_eq', and_true, true_and, and_self, Option.some.injEq, Prod.mk.injEq, if_tt, if_ff, reduceIte, reduceCtorEq, not_true_eq_false, not_false_eq_true, Nat.reduceAdd, Nat.reduceMul, Nat.reduceSub, Nat.reduceLT, Nat.reduceLeDiff, Nat.reduceEqDiff, false_implies, true_implies, implies_true, bs_pI, cc_pI, cs_pI, sh_pI, gR_pI, eI_pI, eR_pI, eL_pI, bs_pR, cc_pR, cs_pR, sh_pR, gI_pR, eI_pR, eR_pR, eL_pR, bs_uI, cc_uI, cs_uI, sh_uI, gI_uI, gR_uI, eR_uI, eL_uI, bs_uR, cc_uR, cs_uR, sh_uR, gI_uR, gR_uR, eI_uR, eL_uR, bs_uL, cc_uL, cs_uL, sh_uL, gI_uL, gR_uL, eI_uL, eR_uL, gI_s, gI_d, gR_s, gR_d, eI_s, eI_d, eI_e, eR_s, eR_d, eR_e, eL_s, eL_d, bs_bump, cc_bump, cs_bump, sh_bump, gI_bump, gR_bump, eI_bump, eR_bump, eL_bump, l_0, l_1, l_2, l_3, l_4, l_5, l_6, l_7, l_8, l_9, l_10, l_11, l_12, l_13, l_14, l_15, l_16, l_17, l_18, l_19, l_20, l_21, l_22, l_23, l_24, l_25, l_26, l_27, l_28, l_29, l_30, l_31, l_32, l_33, l_34, l_35, l_36, l_37, l_38, l_39, l_40, l_41, l_42, l_43, l_44, l_45, l_46, l_47, l_48, l_49, l_50, l_51, l_52, l_53, l_54, l_55, l_56, l_57, l_58, l_59, l_60, l_61, l_62, l_63, l_64, l_65, l_66, l_67, l_68, l_69, l_70, l_71, l_72, l_73, l_74, l_75, l_76, l_77, l_78, l_79, l_80, l_81, l_82, l_83, l_84, l_85, l_86, l_87, l_88, l_89, l_90, l_91, l_92, l_93, l_94, l_95, l_96, l_97, l_98, l_99, l_100, l_101, l_102, l_103, l_104, l_105, l_106, l_107, l_108, l_109, l_110, l_111, l_112, l_113, l_114, l_115, l_116, l_117, l_118, l_119, l_120, l_121, l_122, l_123, l_124, l_125, l_126, l_127, l_128, l_129, l_130, l_256, l_512, l_676, l_704, l_999, l_1000, l_4096, l_17576, l_32768, l_65535, l_456975, l_456976, l_m1, l_m2, hd.1]
  have f1 : Fr (nP a) σ (pI (pI σ 644 a (nI (fle xs))) 646 a (nI 0)) := (Fr.pI (Or.inl rfl)).tr (Fr.pI (Or.inl rfl))
  have hd1 : HD (pI (pI σ 644 a (nI (fle xs))) 646 a (nI 0)) a := hd
  have hx1 := hx.ag (f1.ag (q := t) (by unfold nP; omega)) (f1.ag (q := t + 1) (by unfold nP; omega))
  refine c_Header_hasNextWord (p := 0) (e := fle xs) (by omega) ⟨hta.1, hta.2.1⟩ (by omega) hd1 hx1 (by simp (disch := omega) only [bs_pI, cc_pI, cs_pI, sh_pI, gR_pI, eI_pI, eR_pI, eL_pI, bs_pR, cc_pR, cs_pR, sh_pR, gI_pR, eI_pR, eR_pR, eL_pR, bs_uI, cc_uI, cs_uI, sh_uI, gI_uI, gR_uI, eR_uI, eL_uI, bs_uR, cc_uR, cs_uR, sh_uR, gI_uR, gR_uR, eI_uR, eL_uR, bs_uL, cc_uL, cs_uL, sh_uL, gI_uL, gR_uL, eI_uL, eR_uL, gI_s, gI_d, gR_s, gR_d, eI_s, eI_d, eI_e, eR_s, eR_d, eR_e, eL_s, eL_d, bs_bump, cc_bump, cs_bump, sh_bump, gI_bump, gR_bump, eI_bump, eR_bump, eL_bump]) (by simp (disch := omega) only [bs_pI, cc_pI, cs_pI, sh_pI, gR_pI, eI_pI, eR_pI, eL_pI, bs_pR, cc_pR, cs_pR, sh_pR, gI_pR, eI_pR, eR_pR, eL_pR, bs_uI, cc_uI, cs_uI, sh_uI, gI_uI, gR_uI, eR_uI, eL_uI, bs_uR, cc_uR, cs_uR, sh_uR, gI_uR, gR_uR, eI_uR, eL_uR, bs_uL, cc_uL, cs_uL, sh_uL, gI_uL, gR_uL, eI_uL, eR_uL, gI_s, gI_d, gR_s, gR_d, eI_s, eI_d, eI_e, eR_s, eR_d, eR_e, eL_s, eL_d, bs_bump, cc_bump, cs_bump, sh_bump, gI_bump, gR_bump, eI_bump, eR_bump, eL_bump]) (fun σ2 hf2 q5 q6 => ?_)
  simp only [kI_i]
  have q4 : gI σ2 644 a = nI (fle xs) := by rw [hf2.2.1 _ (by decide) (by decide)]; simp (disch := omega) only [bs_pI, cc_pI, cs_pI, sh_pI, gR_pI, eI_pI, eR_pI, eL_pI, bs_pR, cc_pR, cs_pR, sh_pR, gI_pR, eI_pR, eR_pR, eL_pR, bs_uI, cc_uI, cs_uI, sh_uI, gI_uI, gR_uI, eR_uI, eL_uI, bs_uR, cc_uR, cs_uR, sh_uR, gI_uR, gR_uR, eI_uR, eL_uR, bs_uL, cc_uL, cs_uL, sh_uL, gI_uL, gR_uL, eI_uL, eR_uL, gI_s, gI_d, gR_s, gR_d, eI_s, eI_d, eI_e, eR_s, eR_d, eR_e, eL_s, eL_d, bs_bump, cc_bump, cs_bump, sh_bump, gI_bump, gR_bump, eI_bump, eR_bump, eL_bump]
  have hd2 := hf2.hd hd1
  have hx2 := hf2.tx hx1 hta.1 hta.2.1
  have f2 := f1.tr (hf2.1.mo (fun q hq => Or.inl hq))
  have e1 : hNum xs = 0 → flt xs lg = 1 := by
    intro h; unfold flt; rw [if_pos h]
  by_cases hb : sB xs (fle xs) 0 < fle xs
  · have h3 := @sB_facts xs (fle xs) 0 (by omega)
    have h4 := (@word_iff xs (fle xs) 0 (by omega)).mpr hb
    have h5 := @sW_facts xs (fle xs) (sB xs (fle xs) 0) h3.2.1
    have hw := @wd_some xs (fle xs) 0 (by omega) hb
    rw [decide_eq_true hb, if_neg (by decide)]
    refine ⟨hd2.1, c_Header_isNumber ⟨hta.1, hta.2.1⟩ (by omega) (by omega) hd2 hx2 q5 q6 (fun σ3 hf3 g1 => ?_)⟩
    have eN : hNum xs = numP xs (sB xs (fle xs) 0, sW xs (fle xs) (sB xs (fle xs) 0)) := by unfold hNum hW; rw [hw]; rfl
    rw [← eN] at g1 ⊢
    simp only [kI_i]
    have hd3 := hf3.hd hd2
    have r4 : gI σ3 644 a = nI (fle xs) := by rw [hf3.2.1 _ (by decide)]; exact q4
    have r6 : gI σ3 646 a = nI (sW xs (fle xs) (sB xs (fle xs) 0)) := by rw [hf3.2.1 _ (by decide)]; exact q6
    have f3 := f2.tr (hf3.1.mo (fun q hq => Or.inl hq))
    have hx3 := hx2.ag (hf3.1.ag hta.1) (hf3.1.ag hta.2.1)
    by_cases hz : hNum xs = 0
    · rw [hz, if_pos (by decide)]
      have := hk σ3 ⟨hd3, r4, fun q => absurd (e1 hz) q, fun q => by rw [e1 hz] at q; omega⟩ f3
      rw [e1 hz] at this
      exact this
    · rw [decide_eq_true hz, if_neg (by decide)]
      have r0 := g1 hz
      cases lg with
      | true =>
        rw [if_neg (by decide)]
        have e2 : flt xs true = 2 := by unfold flt; rw [if_neg hz, if_pos rfl]
        have := hk σ3 ⟨hd3, r4, fun _ => r0, fun q => by rw [e2] at q; omega⟩ f3
        rw [e2] at this
        exact this
      | false =>
        rw [if_pos (by decide)]
        have eT : (hW xs).tail = wd xs (fle xs) (sW xs (fle xs) (sB xs (fle xs) 0)) := by unfold hW; rw [hw]; rfl
        refine ⟨hd3.1, c_Header_hasNextWord (p := sW xs (fle xs) (sB xs (fle xs) 0)) (e := fle xs) (by omega) ⟨hta.1, hta.2.1⟩ h5.2.1 hd3 hx3 r4 r6 (fun σ4 hf4 s5 s6 => ?_)⟩
        simp only [kI_i]
        have hd4 := hf4.hd hd3
        have hx4 := hf4.tx hx3 hta.1 hta.2.1
        have f4 := f3.tr (hf4.1.mo (fun q hq => Or.inl hq))
        have s0 : gI σ4 640 a = nI (hNum xs) := by rw [hf4.2.1 _ (by decide) (by decide)]; exact r0
        have s4 : gI σ4 644 a = nI (fle xs) := by rw [hf4.2.1 _ (by decide) (by decide)]; exact r4
        have stay : hP3 xs = wd xs (fle xs) (sW xs (fle xs) (sB xs (fle xs) 0)) → PW (d + 3) M_Header_faultIn 74 [.ref a, .ref t, uu, .int (nI (decide (sB xs (fle xs) (sW xs (fle xs) (sB xs (fle xs) 0)) < fle xs)).toNat)] [] σ4 K := fun hP => c_Header_fault74 hta (by omega) h5.2.1 hP hz f4 hd4 hx4 s0 s4 s5 s6 hk
        by_cases hb2 : sB xs (fle xs) (sW xs (fle xs) (sB xs (fle xs) 0)) < fle xs
        · have h6 := @sB_facts xs (fle xs) (sW xs (fle xs) (sB xs (fle xs) 0)) h5.2.1
          have h7 := (@word_iff xs (fle xs) (sW xs (fle xs) (sB xs (fle xs) 0)) h5.2.1).mpr hb2
          have h8 := @sW_facts xs (fle xs) (sB xs (fle xs) (sW xs (fle xs) (sB xs (fle xs) 0))) h6.2.1
          have hw2 := @wd_some xs (fle xs) (sW xs (fle xs) (sB xs (fle xs) 0)) h5.2.1 hb2
          rw [decide_eq_true hb2] at stay ⊢
          rw [if_neg (by decide)]
          refine ⟨hd4.1, e_Header_wordLength_0 a ⟨hd4.1, ?_⟩⟩
          simp only [kI_i]
          simp (disch := omega) only [s5, s6, sub_n, eq_n]
          have hP : ∀ b, isR1 xs (sB xs (fle xs) (sW xs (fle xs) (sB xs (fle xs) 0)), sW xs (fle xs) (sB xs (fle xs) (sW xs (fle xs) (sB xs (fle xs) 0)))) = b → hP3 xs = if b = true then wd xs (fle xs) (sW xs (fle xs) (sB xs (fle xs) (sW xs (fle xs) (sB xs (fle xs) 0)))) else wd xs (fle xs) (sW xs (fle xs) (sB xs (fle xs) 0)) := by
            intro b hb
            unfold hP3
            rw [eT, hw2]
            show (if _ then _ else _) = _
            rw [hb]
          by_cases hone : sW xs (fle xs) (sB xs (fle xs) (sW xs (fle xs) (sB xs (fle xs) 0))) - sB xs (fle xs) (sW xs (fle xs) (sB xs (fle xs) 0)) = 1
          · rw [if_pos hone]
            refine ⟨hd4.1, hx4.1, c_Text_at hx4 (by omega) ?_⟩
            have hlt := getD_lt hx4.2.2.2.2.2.2.2 (sB xs (fle xs) (sW xs (fle xs) (sB xs (fle xs) 0)))
            simp only [kI_i]
            simp (disch := omega) only [eq_n]
            by_cases h82 : xs.getD (sB xs (fle xs) (sW xs (fle xs) (sB xs (fle xs) 0))) 0 = 82
            · rw [if_pos h82]
              have hP' := hP true (decide_eq_true ⟨by show _ = _ + 1; omega, h82⟩)
              rw [if_pos rfl] at hP'
              refine ⟨hd4.1, c_Header_hasNextWord (p := sW xs (fle xs) (sB xs (fle xs) (sW xs (fle xs) (sB xs (fle xs) 0)))) (e := fle xs) (by omega) ⟨hta.1, hta.2.1⟩ h8.2.1 hd4 hx4 s4 s6 (fun σ5 hf5 t5 t6 => ?_)⟩
              simp only [kI_i]
              exact c_Header_fault74 hta (by omega) h8.2.1 hP' hz (f4.tr (hf5.1.mo (fun q hq => Or.inl hq))) (hf5.hd hd4) (hf5.tx hx4 hta.1 hta.2.1) (by rw [hf5.2.1 _ (by decide) (by decide)]; exact s0) (by rw [hf5.2.1 _ (by decide) (by decide)]; exact s4) t5 t6 hk
            · rw [if_neg h82]
              have hP' := hP false (decide_eq_false (fun q => h82 q.2))
              rw [if_neg (by decide)] at hP'
              exact stay hP'
          · rw [if_neg hone]
            have hP' := hP false (decide_eq_false (fun q => hone (by have : sW xs (fle xs) (sB xs (fle xs) (sW xs (fle xs) (sB xs (fle xs) 0))) = sB xs (fle xs) (sW xs (fle xs) (sB xs (fle xs) 0)) + 1 := q.1; omega)))
            rw [if_neg (by decide)] at hP'
            exact stay hP'
        · rw [decide_eq_false hb2] at stay ⊢
          rw [if_pos (by decide)]
          refine stay ?_
          unfold hP3
          rw [eT, wd_none h5.2.1 hb2]; rfl
  · rw [decide_eq_false hb, if_pos (by decide)]
    have hz : hNum xs = 0 := by unfold hNum hW; rw [wd_none (by omega) hb]; rfl
    have := hk σ2 ⟨hd2, q4, fun q => absurd (e1 hz) q, fun q => by rw [e1 hz] at q; omega⟩ f2
    rw [e1 hz] at this
    exact this
end CHeader3
