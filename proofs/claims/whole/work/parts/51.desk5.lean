/-! ===== contracts of handIn, sign, resubmit ===== -/
theorem wd_fit {xs : List Nat} {e : Nat} : ∀ (m p : Nat), e ≤ p + m → p ≤ e → (p < e → xs.getD p 0 = 32) → (wd xs e p).all (isI xs) = true → p + 5 * (wd xs e p).length ≤ e := by
  intro m
  induction m with
  | zero =>
    intro p h1 h2 h3 h4
    rw [wd_none h2 (by rw [sB_end (by omega)]; omega)]
    simp; omega
  | succ m ih =>
    intro p h1 h2 h3 h4
    by_cases hb : sB xs e p < e
    · have f1 := @sB_facts xs e p h2
      have f2 := (@word_iff xs e p h2).mpr hb
      have f3 := @sW_facts xs e (sB xs e p) f1.2.1
      rw [wd_some h2 hb] at h4 ⊢
      rw [List.all_cons, Bool.and_eq_true] at h4
      have h5 := (isI_iff.mp h4.1).1
      have hne : sB xs e p ≠ p := by
        intro q
        have := f1.2.2 hb
        rw [q] at this
        exact this (h3 (by omega))
      have := ih (sW xs e (sB xs e p)) (by omega) f3.2.1 f3.2.2 h4.2
      rw [List.length_cons]
      omega
    · rw [wd_none h2 hb]; simp; omega
theorem flt0 {xs : List Nat} {lg : Bool} (h : flt xs lg = 0) : hNum xs ≠ 0 ∧ hPrc xs ≠ 0 ∧ 1 ≤ (hI xs).length ∧ (hI xs).length ≤ 4 ∧ (hI xs).all (isI xs) = true := by
  unfold flt at h
  by_cases h1 : hNum xs = 0
  · rw [if_pos h1] at h; omega
  · rw [if_neg h1] at h
    by_cases h2 : lg = true
    · rw [if_pos h2] at h; omega
    · rw [if_neg h2] at h
      by_cases h3 : hPrc xs = 0
      · rw [if_pos h3] at h; omega
      · rw [if_neg h3] at h
        by_cases h4 : 1 ≤ (hI xs).length ∧ (hI xs).length ≤ 4 ∧ (hI xs).all (isI xs) = true
        · exact ⟨h1, h3, h4⟩
        · rw [if_neg h4] at h; omega
theorem flt_le {xs : List Nat} {lg : Bool} : flt xs lg ≤ 4 := by
  unfold flt
  repeat' split
  all_goals omega
theorem flt_num {xs : List Nat} {lg : Bool} (h : flt xs lg ≠ 1) : hNum xs ≠ 0 := by
  intro q
  unfold flt at h
  rw [if_pos q] at h
  exact h rfl
/-- a sound header leaves room for the tape -/
theorem fit_le {xs : List Nat} {lg : Bool} (h : flt xs lg = 0) (hl : xs.length ≤ 60) : 5 * (hInd xs).length + (xs.drop (fle xs + 1)).length ≤ 54 := by
  obtain ⟨h1, h2, h3, h4, h5⟩ := flt0 h
  have hle := (fle_spec xs).1
  unfold hInd
  rw [List.length_map, List.length_drop]
  have key : 5 + 5 * (hI xs).length ≤ fle xs := by
    have n1 : sB xs (fle xs) 0 < fle xs := by
      by_cases hb : sB xs (fle xs) 0 < fle xs
      · exact hb
      · exfalso; apply h1; unfold hNum hW; rw [wd_none (by omega) hb]; rfl
    have f1 := @sB_facts xs (fle xs) 0 (by omega)
    have f2 := (@word_iff xs (fle xs) 0 (by omega)).mpr n1
    have f3 := @sW_facts xs (fle xs) (sB xs (fle xs) 0) f1.2.1
    have eW : hW xs = (sB xs (fle xs) 0, sW xs (fle xs) (sB xs (fle xs) 0)) :: wd xs (fle xs) (sW xs (fle xs) (sB xs (fle xs) 0)) := by unfold hW; exact wd_some (by omega) n1
    have h3w : sW xs (fle xs) (sB xs (fle xs) 0) = sB xs (fle xs) 0 + 3 := by
      unfold hNum at h1
      rw [eW] at h1
      by_cases q : sW xs (fle xs) (sB xs (fle xs) 0) = sB xs (fle xs) 0 + 3
      · exact q
      · exfalso; apply h1; show numP xs _ = 0; unfold numP; rw [if_neg (fun z => q z.1)]
    have hex : ∃ p, sW xs (fle xs) (sB xs (fle xs) 0) ≤ p ∧ p ≤ fle xs ∧ (p < fle xs → xs.getD p 0 = 32) ∧ hP3 xs = wd xs (fle xs) p := by
      unfold hP3
      rw [eW, List.tail_cons]
      by_cases hb : sB xs (fle xs) (sW xs (fle xs) (sB xs (fle xs) 0)) < fle xs
      · rw [wd_some f3.2.1 hb]
        have g1 := @sB_facts xs (fle xs) _ f3.2.1
        have g3 := @sW_facts xs (fle xs) (sB xs (fle xs) (sW xs (fle xs) (sB xs (fle xs) 0))) g1.2.1
        show ∃ p, _ ∧ _ ∧ _ ∧ (if isR1 xs _ = true then _ else _) = _
        by_cases hr : isR1 xs (sB xs (fle xs) (sW xs (fle xs) (sB xs (fle xs) 0)), sW xs (fle xs) (sB xs (fle xs) (sW xs (fle xs) (sB xs (fle xs) 0)))) = true
        · rw [if_pos hr]
          exact ⟨_, by omega, g3.2.1, g3.2.2, rfl⟩
        · rw [if_neg hr]
          exact ⟨_, Nat.le_refl _, f3.2.1, f3.2.2, (wd_some f3.2.1 hb).symm⟩
      · rw [wd_none f3.2.1 hb]
        exact ⟨_, Nat.le_refl _, f3.2.1, f3.2.2, (wd_none f3.2.1 hb).symm⟩
    obtain ⟨p, p1, p2, p3, p4⟩ := hex
    have n2 : sB xs (fle xs) p < fle xs := by
      by_cases hb : sB xs (fle xs) p < fle xs
      · exact hb
      · exfalso; apply h2; unfold hPrc; rw [p4, wd_none p2 hb]; rfl
    have g1 := @sB_facts xs (fle xs) p p2
    have g2 := (@word_iff xs (fle xs) p p2).mpr n2
    have g3 := @sW_facts xs (fle xs) (sB xs (fle xs) p) g1.2.1
    have hne : sB xs (fle xs) p ≠ p := by
      intro q
      have := g1.2.2 n2
      rw [q] at this
      exact this (p3 (by omega))
    have eI : hI xs = wd xs (fle xs) (sW xs (fle xs) (sB xs (fle xs) p)) := by unfold hI; rw [p4, wd_some p2 n2]; rfl
    rw [eI] at h5 ⊢
    have := wd_fit (fle xs) _ (by omega) g3.2.1 g3.2.2 h5
    omega
  omega
theorem ind_lt {xs : List Nat} {lg : Bool} (h : flt xs lg = 0) : ∀ k ∈ hInd xs, k < 456976 := by
  obtain ⟨h1, h2, h3, h4, h5⟩ := flt0 h
  intro k hk
  obtain ⟨p, hp, rfl⟩ := List.mem_map.mp hk
  exact indV_lt (List.all_eq_true.mp h5 p hp)
/-- the mark that the text of channel c has been cut -/
def mkd (S : SP) (c : Nat) (xs : List Nat) : SP := uC S c (wIn (S.1 c) (200 :: xs) (sF (S.1 c)))
section Desk5
variable {d : Nat} {σ σ' : PH} {K : PO → PH → Prop} {B : Nat} {S : SP}
theorem CR.text {c : Nat} {xs : List Nat} (h : CR σ B (mkd S c xs)) (hc : c < 8) : TX σ (cA B c + 2) 60 xs := by
  have := (h.2.2.2.1 c hc).2.2.2.2.2.1
  have e : (mkd S c xs).1 c = wIn (S.1 c) (200 :: xs) (sF (S.1 c)) := if_pos rfl
  rw [e] at this
  obtain ⟨-, -, ys, h1, h2, -⟩ := this
  have := h2 rfl
  rw [show xs = ys from this.symm]
  exact h1
theorem CR.num {c : Nat} {xs : List Nat} {la : Nat} {mi : List Nat} (h : CR σ B (mkd S c xs)) (hc : c < 8) (hf : Fr (nP (cA B c + 4)) σ σ') (hn : NU σ' (cA B c + 4) la mi) : CR σ' B (mkd (uC S c (wNu (S.1 c) la mi)) c xs) := by
  obtain ⟨b1, b2, b3, b4, b5, b6, b7, b8⟩ := h.2.2.2.1 c hc
  have e : (mkd S c xs).1 c = wIn (S.1 c) (200 :: xs) (sF (S.1 c)) := if_pos rfl
  have fa := hf.ag (q := cA B c) (by unfold nP; omega)
  have := h.chan (s := wNu ((mkd S c xs).1 c) la mi) hc (hf.mo (fun q hq => by unfold nP at hq; unfold hP; omega)) ⟨by rw [fa.1]; exact b1, by rw [fa.2.1]; exact b2, by rw [fa.2.2.1]; exact b3, by rw [fa.2.2.1]; exact b4, by rw [fa.2.2.1]; exact b5, b6.ag (hf.ag (by unfold nP; omega)) (hf.ag (by unfold nP; omega)) (hf.ag (by unfold nP; omega)), hn, b8.ag (fun q q1 q2 => hf.ag (by unfold nP; omega))⟩
  refine this.ext (fun x hx => ?_) rfl
  unfold mkd uC
  by_cases hxc : x = c
  · simp [hxc, wIn, wNu, sOp, sG, sF, sLa, sMi, sLn, sSd, sOut, sSent, sAsk]
  · simp [hxc]
theorem addM_mkd {c : Nat} {xs : List Nat} : addM (mkd S c xs) xs = mkd (addM S xs) c xs := by
  have e : newM (mkd S c xs) xs = newM S xs := by
    refine newM_cg (fun x => ?_) rfl
    unfold mkd uC
    by_cases hxc : x = c
    · simp [hxc, wIn, sOp]
    · simp [hxc]
  unfold addM
  rw [e]; rfl
theorem k_handIn {c : Nat} {g : List Nat} {T : Nat} (hC : CR σ B S) (hI : Inv S T) (hc : c < 8) (hg : g = sG (S.1 c)) (hk : ∀ σ', CR σ' B (mkd (hand S c (inkT g) (decide (60 < lnS g))).1 c (inkT g)) → Fr (dP B) σ σ' → K (.inl (some (.int (nI (hand S c (inkT g) (decide (60 < lnS g))).2)))) σ') : PW (d + 6) M_Desk_handIn 0 [.ref B, .ref (cA B c), uu, uu, uu] [] σ K := by
  obtain ⟨i1, i2, i3, i4, i5⟩ := hI
  obtain ⟨j1, j2, j3, j4, j5, j6, j7, j8, j9, j10, j11, j12, j13⟩ := i4 c hc
  obtain ⟨b1, b2, b3, b4, b5, b6, b7, b8⟩ := hC.2.2.2.1 c hc
  have hin := b6.out j2
  rw [← hg] at hin
  refine e_Desk_handIn_0 B (cA B c) ⟨b1, cA B c + 1, b3, b6.1, c_Intake_textBeforeEnd hin (fun σ1 g1 g2 g3 g4 f1 => ?_)⟩
  have fa := f1.ag (q := cA B c) (by unfold iP; omega)
  have hxl : (inkT g).length ≤ 60 := g3.2.2.2.2.1
  -- the state with its mark
  have hC1 : CR σ1 B (mkd S c (inkT g)) := by
    refine hC.chan hc (f1.mo (fun q hq => by unfold iP at hq; unfold hP; omega)) ⟨by rw [fa.1]; exact b1, by rw [fa.2.1]; exact b2, by rw [fa.2.2.1]; exact b3, by rw [fa.2.2.1]; exact b4, by rw [fa.2.2.1]; exact b5, ⟨g1, g2, _, g3, fun _ => rfl, fun q => absurd rfl q⟩, b7.ag (f1.ag (by unfold iP; omega)) (f1.ag (by unfold iP; omega)), b8.ag (fun q q1 q2 => f1.ag (by unfold iP; omega))⟩
  have fd1 : Fr (dP B) σ σ1 := f1.mo (fun q hq => by unfold iP cA at hq; unfold dP; omega)
  obtain ⟨a1, a2, a3, a4, a5, a6, a7, a8, a9, a10, a11, a12, a13, a14⟩ := hC1.1
  simp only [kI_i, kI_x, kV_v, kV_x, kR_r, kR_n, kR_x, kHI_i, kHI_0, kHI_1, kHV_v, kHV_0, kHV_1, va_s, va_n, exists_eq_left', exists_eq_left, forall_eq, forall_eq', and_true, true_and, and_self, Option.some.injEq, Prod.mk.injEq, if_tt, if_ff, reduceIte, reduceCtorEq, not_true_eq_false, not_false_eq_true, Nat.reduceAdd, Nat.reduceMul, Nat.reduceSub, Nat.reduceLT, Nat.reduceLeDiff, Nat.reduceEqDiff, false_implies, true_implies, implies_true, a1, a6, fa.1, b1, fa.2.2.1, b3]
  refine ⟨g1, c_Intake_isLong g1 g4 ?_⟩
  simp only [kI_i]
  have htx : TX σ1 (cA B c + 2) 60 (inkT g) := g3
  refine ⟨hC1.2.2.1.1, c_Header_faultIn (t := cA B c + 2) (by unfold cA; omega) hC1.2.2.1 htx (by omega) (fun σ2 hr f2 => ?_)⟩
  have hC2 : CR σ2 B (mkd S c (inkT g)) := hC1.head f2 hr.1
  have fd2 := fd1.tr (f2.mo (Q := dP B) (fun q hq => by unfold nP at hq; unfold dP; omega))
  have hfl := @flt_le (inkT g) (decide (60 < lnS g))
  clear fa g1 g2 g3 g4 f1 f2 htx hC1 fd1 a1 a2 a3 a4 a5 a6 a7 a8 a9 a10 a11 a12 a13 a14 b1 b2 b3 b4 b5 b6 b7 b8 hin
  obtain ⟨a1, a2, a3, a4, a5, a6, a7, a8, a9, a10, a11, a12, a13, a14⟩ := hC2.1
  obtain ⟨b1, b2, b3, b4, b5, b6, b7, b8⟩ := hC2.2.2.2.1 c hc
  have e1 : (mkd S c (inkT g)).1 c = wIn (S.1 c) (200 :: inkT g) (sF (S.1 c)) := if_pos rfl
  rw [e1] at b7
  have b7' : NU σ2 (cA B c + 4) (sLa (S.1 c)) (sMi (S.1 c)) := b7
  generalize hxs : inkT g = xs at *
  generalize hlg : decide (60 < lnS g) = lg at *
  unfold hand at hk
  simp (disch := omega) only [kI_i, eq_n, l_0, l_1, l_2, l_3, l_4, l_5, l_6, l_7, l_8, l_9, l_10, l_11, l_12, l_13, l_14, l_15, l_16, l_17, l_18, l_19, l_20, l_21, l_22, l_23, l_24, l_25, l_26, l_27, l_28, l_29, l_30, l_31, l_32, l_33, l_34, l_35, l_36, l_37, l_38, l_39, l_40, l_41, l_42, l_43, l_44, l_45, l_46, l_47, l_48, l_49, l_50, l_51, l_52, l_53, l_54, l_55, l_56, l_57, l_58, l_59, l_60, l_61, l_62, l_63, l_64, l_65, l_66, l_67, l_68, l_69, l_70, l_71, l_72, l_73, l_74, l_75, l_76, l_77, l_78, l_79, l_80, l_81, l_82, l_83, l_84, l_85, l_86, l_87, l_88, l_89, l_90, l_91, l_92, l_93, l_94, l_95, l_96, l_97, l_98, l_99, l_100, l_101, l_102, l_103, l_104, l_105, l_106, l_107, l_108, l_109, l_110, l_111, l_112, l_113, l_114, l_115, l_116, l_117, l_118, l_119, l_120, l_121, l_122, l_123, l_124, l_125, l_126, l_127, l_128, l_129, l_130, l_256, l_512, l_676, l_704, l_999, l_1000, l_4096, l_17576, l_32768, l_65535, l_456975, l_456976, l_m1, l_m2]
  by_cases h1 : flt xs lg = 1
  · rw [if_pos h1, h1]
    rw [if_pos h1] at hk
    refine ⟨a1, k_makeCase hC2 i2 (by decide) (fun σ3 h3 f3 => ?_)⟩
    simp only [kV_v]
    exact hk σ3 h3 (fd2.tr (f3.mo (fun q hq => by unfold dP; omega)))
  · rw [if_neg h1]
    rw [if_neg h1] at hk
    have hN := hr.2.2.1 h1
    have hN0 := flt_num h1
    have hN9 := @hNum_le xs
    simp only [kI_i, kI_x, kV_v, kV_x, kR_r, kR_n, kR_x, kHI_i, kHI_0, kHI_1, kHV_v, kHV_0, kHV_1, va_s, va_n, exists_eq_left', exists_eq_left, forall_eq, forall_eq', and_true, true_and, and_self, Option.some.injEq, Prod.mk.injEq, if_tt, if_ff, reduceIte, reduceCtorEq, not_true_eq_false, not_false_eq_true, Nat.reduceAdd, Nat.reduceMul, Nat.reduceSub, Nat.reduceLT, Nat.reduceLeDiff, Nat.reduceEqDiff, false_implies, true_implies, implies_true, b1, b4, a1, a6, hC2.2.2.1.1, b7'.1]
    rw [hN]
    refine c_Numbers_accepts b7' (by omega) hN9 ?_
    simp only [kI_i]
    by_cases hacc : due (sLa (S.1 c)) (sMi (S.1 c)) (hNum xs) = false ∧ ¬ plc (sMi (S.1 c)) (hNum xs) < (sMi (S.1 c)).length
    · rw [if_pos hacc] at hk
      rw [hacc.1, decide_eq_false hacc.2, if_pos (by decide)]
      exact hk σ2 hC2 fd2
    · rw [if_neg hacc] at hk
      have hb : (due (sLa (S.1 c)) (sMi (S.1 c)) (hNum xs) || decide (plc (sMi (S.1 c)) (hNum xs) < (sMi (S.1 c)).length)) = true := by
        cases hq : due (sLa (S.1 c)) (sMi (S.1 c)) (hNum xs) with
        | true => rfl
        | false =>
          rw [Bool.false_or]
          exact decide_eq_true (Decidable.byContradiction (fun z => hacc ⟨hq, z⟩))
      rw [hb, if_neg (by decide)]
      have a7' : gI σ2 5 B = nI S.2.1.length := a7
      simp (disch := omega) only [bs_pI, cc_pI, cs_pI, sh_pI, gR_pI, eI_pI, eR_pI, eL_pI, bs_pR, cc_pR, cs_pR, sh_pR, gI_pR, eI_pR, eR_pR, eL_pR, bs_uI, cc_uI, cs_uI, sh_uI, gI_uI, gR_uI, eR_uI, eL_uI, bs_uR, cc_uR, cs_uR, sh_uR, gI_uR, gR_uR, eI_uR, eL_uR, bs_uL, cc_uL, cs_uL, sh_uL, gI_uL, gR_uL, eI_uL, eR_uL, gI_s, gI_d, gR_s, gR_d, eI_s, eI_d, eI_e, eR_s, eR_d, eR_e, eL_s, eL_d, bs_bump, cc_bump, cs_bump, sh_bump, gI_bump, gR_bump, eI_bump, eR_bump, eL_bump, l_0, l_1, l_2, l_3, l_4, l_5, l_6, l_7, l_8, l_9, l_10, l_11, l_12, l_13, l_14, l_15, l_16, l_17, l_18, l_19, l_20, l_21, l_22, l_23, l_24, l_25, l_26, l_27, l_28, l_29, l_30, l_31, l_32, l_33, l_34, l_35, l_36, l_37, l_38, l_39, l_40, l_41, l_42, l_43, l_44, l_45, l_46, l_47, l_48, l_49, l_50, l_51, l_52, l_53, l_54, l_55, l_56, l_57, l_58, l_59, l_60, l_61, l_62, l_63, l_64, l_65, l_66, l_67, l_68, l_69, l_70, l_71, l_72, l_73, l_74, l_75, l_76, l_77, l_78, l_79, l_80, l_81, l_82, l_83, l_84, l_85, l_86, l_87, l_88, l_89, l_90, l_91, l_92, l_93, l_94, l_95, l_96, l_97, l_98, l_99, l_100, l_101, l_102, l_103, l_104, l_105, l_106, l_107, l_108, l_109, l_110, l_111, l_112, l_113, l_114, l_115, l_116, l_117, l_118, l_119, l_120, l_121, l_122, l_123, l_124, l_125, l_126, l_127, l_128, l_129, l_130, l_256, l_512, l_676, l_704, l_999, l_1000, l_4096, l_17576, l_32768, l_65535, l_456975, l_456976, l_m1, l_m2, in_iff, eq_m1, m1_eq, m1_lt, m1_le, le_m1, lt_m1, eq_m2, m2_m1, m1_m2, add_m1, m1_add, sub_n, mul_n, add_n, bo_n0, bo_n1, ch_n, lt_n, le_n, eq_n, ix_n, i2c_n, rem_n, div_n, kI_i, kI_x, kV_v, kV_x, kR_r, kR_n, kR_x, kHI_i, kHI_0, kHI_1, kHV_v, kHV_0, kHV_1, va_s, va_n, exists_eq_left', exists_eq_left, forall_eq, forall_eq', and_true, true_and, and_self, Option.some.injEq, Prod.mk.injEq, if_tt, if_ff, reduceIte, reduceCtorEq, not_true_eq_false, not_false_eq_true, Nat.reduceAdd, Nat.reduceMul, Nat.reduceSub, Nat.reduceLT, Nat.reduceLeDiff, Nat.reduceEqDiff, false_implies, true_implies, implies_true, a1, a7', b1, b4, a6, hC2.2.2.1.1, b7'.1]
      by_cases h10 : S.2.1.length = 10
      · rw [if_neg (by omega)]
        rw [if_pos h10] at hk
        exact hk σ2 hC2 fd2
      · rw [if_pos (by omega)]
        rw [if_neg h10] at hk
        rw [hN]
        refine c_Numbers_take b7' (by omega) hN9 (fun hz => Decidable.byContradiction (fun z => hacc ⟨hz, z⟩)) (fun σ3 h3 f3 => ?_)
        have hC3 := hC2.num hc f3 h3
        have fd3 := fd2.tr (f3.mo (Q := dP B) (fun q hq => by unfold nP cA at hq; unfold dP; omega))
        have f3h := f3.ag (q := B + 30) (by unfold nP cA; omega)
        have f3h1 := f3.ag (q := B + 30 + 1) (by unfold nP cA; omega)
        simp only [kV_v]
        by_cases h0 : flt xs lg = 0
        · rw [if_pos h0]
          rw [if_neg (fun q => q h0)] at hk
          obtain ⟨r1, r2⟩ := hr.2.2.2 h0
          have hd3 := hC3.2.2.1
          have hk3 : HK σ3 (B + 30) (hInd xs) := ⟨by rw [f3h.2.1]; exact r2.1, r2.2.1, fun i hi => by rw [f3h1.2.2.2.1]; exact r2.2.2 i hi⟩
          simp only [kI_i, kI_x, kV_v, kV_x, kR_r, kR_n, kR_x, kHI_i, kHI_0, kHI_1, kHV_v, kHV_0, kHV_1, va_s, va_n, exists_eq_left', exists_eq_left, forall_eq, forall_eq', and_true, true_and, and_self, Option.some.injEq, Prod.mk.injEq, if_tt, if_ff, reduceIte, reduceCtorEq, not_true_eq_false, not_false_eq_true, Nat.reduceAdd, Nat.reduceMul, Nat.reduceSub, Nat.reduceLT, Nat.reduceLeDiff, Nat.reduceEqDiff, false_implies, true_implies, implies_true, hC3.1.1, hC3.1.2.2.2.2.1, hC3.1.2.2.2.2.2.1]
          refine ⟨hC3.2.1.1, c_Routes_rowsBehind hC3.2.1 hd3 hk3 (ind_lt h0) (fun acc hacc2 => ?_)⟩
          simp only [kI_i]
          have hS3 : ∀ x, x < 8 → (sSd ((mkd (uC S c (wNu (S.1 c) (tkL (sLa (S.1 c)) (sMi (S.1 c)) (hNum xs)) (tkM (sLa (S.1 c)) (sMi (S.1 c)) (hNum xs)))) c xs).1 x)).1 ≤ S.2.1.length := by
            intro x hx
            have := (i4 x hx).2.2.2.2.2.2.2.1
            unfold mkd uC
            by_cases hxc : x = c
            · subst hxc; simpa [wIn, wNu, sSd] using this
            · simpa [hxc] using this
          refine ⟨hC3.1.1, k_fileMessage (t := cA B c + 2) (cap := 60) (xs := xs) hC3 (show S.2.1.length < 10 by omega) hS3 (hC3.text hc) (by omega) (by unfold cA; omega) (by unfold cA; omega) (by rw [f3h.2.1]; exact r1) hk3 (by rw [f3h.2.1]; exact hr.2.1) (ind_lt h0) (fit_le h0 hxl) hacc2 (fun σ4 h4 f4 => ?_)⟩
          rw [addM_mkd] at h4
          have fd4 := fd3.tr (f4.mo (Q := dP B) (fun q hq => by unfold dP; omega))
          simp only [kV_v]
          refine c_Routes_leadNowhere hacc2.1 ?_
          simp only [kI_i]
          have hLost : acc.testBit 12 = true ↔ Lost S (hInd xs) := hacc2.2 12
          cases ht : acc.testBit 12 with
          | false =>
            rw [if_pos (by decide)]
            have : ¬ Lost S (hInd xs) := fun q => by have := hLost.mpr q; rw [ht] at this; exact absurd this (by decide)
            rw [if_neg this] at hk
            exact hk σ4 h4 fd4
          | true =>
            rw [if_neg (by decide)]
            have hl := hLost.mp ht
            rw [if_pos hl] at hk
            refine ⟨h4.1.1, k_makeCase (r := 5) h4 i2 (by decide) (fun σ5 h5 f5 => ?_)⟩
            simp only [kV_v]
            exact hk σ5 h5 (fd4.tr (f5.mo (fun q hq => by unfold dP; omega)))
        · rw [if_neg h0]
          rw [if_pos h0] at hk
          refine ⟨hC3.1.1, k_makeCase hC3 i2 (by omega) (fun σ4 h4 f4 => ?_)⟩
          simp only [kV_v]
          exact hk σ4 h4 (fd3.tr (f4.mo (fun q hq => by unfold dP; omega)))
end Desk5
