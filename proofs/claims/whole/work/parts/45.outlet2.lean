/-! ===== the contract of Outlet.nextSign ===== -/
section COutlet2
variable {d : Nat} {σ : PH} {K : PO → PH → Prop} {a c : Nat} {cur : Option Nat} {n : Nat} {ag : Bool} {ln : Nat} {ask kp tp : List Nat} {pos : Nat} {fg : Bool}
theorem c_Outlet_nextNone (h : OU σ a c none n ag ln ask kp tp pos fg) (hk : K (.inl (some (.int m1))) σ) : PW (d + 1) M_Outlet_nextSign 0 [.ref a, uu, uu] [] σ K := by
  obtain ⟨a1, a2, a3, a4, a5, a6, a7, a8, a9, a10, a11, a12, a13, a14, a15, a16, a17, a18, a19, a20, a21, a22, a23⟩ := h
  refine e_Outlet_nextSign_0 a ⟨a1, ?_⟩
  rw [a9, if_pos rfl]
  exact hk
/-- a shift goes out before this character -/
def shf (x : Nat) (fg : Bool) : Bool := !isB x && (isL x == fg)
theorem c_Outlet_nextSign {x : Nat} {m : MS} (h : OU σ a c (some x) n ag ln ask kp tp pos fg) (hn : 1 ≤ n) (hpos : pos < tp.length) (hm : ME σ x m) (hx : x + 5 ≤ a ∨ a + 5 ≤ x) (hkm : ∀ y ∈ kp, sh σ y = (1, 6))
    (hk1 : shf (tp.getD pos 0) fg = true → ∀ σ', OU σ' a c (some x) n ag ln ask kp tp pos (!fg) → Fr (oP a) σ σ' → K (.inl (some (.int (nI (if fg = true then 28 else 29))))) σ')
    (hk2 : shf (tp.getD pos 0) fg = false → pos + 1 < tp.length → ∀ σ', OU σ' a c (some x) n ag ln ask kp tp (pos + 1) fg → Fr (oP a) σ σ' → K (.inl (some (.int (sgI (tp.getD pos 0))))) σ')
    (hk3 : shf (tp.getD pos 0) fg = false → pos + 1 = tp.length → ag = true → ∀ σ', OU σ' a c none n ag ln ask kp tp (pos + 1) fg → Fr (oP a) σ σ' → K (.inl (some (.int (sgI (tp.getD pos 0))))) σ')
    (hk4 : shf (tp.getD pos 0) fg = false → pos + 1 = tp.length → ag = false → ∀ σ', OU σ' a c none n ag ln ask ((x :: kp).take 3) tp (pos + 1) fg → ME σ' x (m.1, m.2.1, m.2.2.1, fun y => if y = c then n + 2 else m.2.2.2 y) → Fr (fun q => oP a q ∨ mP x q) σ σ' → K (.inl (some (.int (sgI (tp.getD pos 0))))) σ') : PW (d + 5) M_Outlet_nextSign 0 [.ref a, uu, uu] [] σ K := by
  have h0 := h
  obtain ⟨a1, a2, a3, a4, a5, a6, a7, a8, a9, a10, a11, a12, a13, a14, a15, a16, a17, a18, a19, a20, a21, a22, a23⟩ := h
  have hlt := getD_lt a5.2.2.2.2.2.2.2 pos
  have hle := a5.2.2.2.2.1
  refine e_Outlet_nextSign_0 a ⟨a1, ?_⟩
  rw [a9, if_neg (by simp), a6]
  refine ⟨a + 1, a4, a5.1, c_Text_at a5 (by omega) ?_⟩
  simp only [kI_i]
  refine c_Signs_isLetter (by omega) ?_
  simp only [kI_i]
  refine c_Signs_isInBothShifts (by omega) ?_
  simp only [kI_i]
  have go : shf (tp.getD pos 0) fg = false → PW (d + 5) M_Outlet_nextSign 69 [.ref a, .int (nI (tp.getD pos 0)), uu] [] σ K := by
    intro hs
    refine e_Outlet_nextSign_69 a _ ?_
    simp (disch := omega) only [bs_pI, cc_pI, cs_pI, sh_pI, gR_pI, eI_pI, eR_pI, eL_pI, bs_pR, cc_pR, cs_pR, sh_pR, gI_pR, eI_pR, eR_pR, eL_pR, bs_uI, cc_uI, cs_uI, sh_uI, gI_uI, gR_uI, eR_uI, eL_uI, bs_uR, cc_uR, cs_uR, sh_uR, gI_uR, gR_uR, eI_uR, eL_uR, bs_uL, cc_uL, cs_uL, sh_uL, gI_uL, gR_uL, eI_uL, eR_uL, gI_s, gI_d, gR_s, gR_d, eI_s, eI_d, eI_e, eR_s, eR_d, eR_e, eL_s, eL_d, bs_bump, cc_bump, cs_bump, sh_bump, gI_bump, gR_bump, eI_bump, eR_bump, eL_bump, l_0, l_1, l_2, l_3, l_4, l_5, l_6, l_7, l_8, l_9, l_10, l_11, l_12, l_13, l_14, l_15, l_16, l_17, l_18, l_19, l_20, l_21, l_22, l_23, l_24, l_25, l_26, l_27, l_28, l_29, l_30, l_31, l_32, l_33, l_34, l_35, l_36, l_37, l_38, l_39, l_40, l_41, l_42, l_43, l_44, l_45, l_46, l_47, l_48, l_49, l_50, l_51, l_52, l_53, l_54, l_55, l_56, l_57, l_58, l_59, l_60, l_61, l_62, l_63, l_64, l_65, l_66, l_67, l_68, l_69, l_70, l_71, l_72, l_73, l_74, l_75, l_76, l_77, l_78, l_79, l_80, l_81, l_82, l_83, l_84, l_85, l_86, l_87, l_88, l_89, l_90, l_91, l_92, l_93, l_94, l_95, l_96, l_97, l_98, l_99, l_100, l_101, l_102, l_103, l_104, l_105, l_106, l_107, l_108, l_109, l_110, l_111, l_112, l_113, l_114, l_115, l_116, l_117, l_118, l_119, l_120, l_121, l_122, l_123, l_124, l_125, l_126, l_127, l_128, l_129, l_130, l_256, l_512, l_676, l_704, l_999, l_1000, l_4096, l_17576, l_32768, l_65535, l_456975, l_456976, l_m1, l_m2, in_iff, eq_m1, m1_eq, m1_lt, m1_le, le_m1, lt_m1, eq_m2, m2_m1, m1_m2, add_m1, m1_add, sub_n, mul_n, add_n, bo_n0, bo_n1, ch_n, lt_n, le_n, eq_n, ix_n, i2c_n, rem_n, div_n, kI_i, kI_x, kV_v, kV_x, kR_r, kR_n, kR_x, kHI_i, kHI_0, kHI_1, kHV_v, kHV_0, kHV_1, va_s, va_n, exists_eq_left', exists_eq_left, forall_eq, forall_eq', and_true, true_and, and_self, Option.some.injEq, Prod.mk.injEq, if_tt, if_ff, reduceIte, reduceCtorEq, not_true_eq_false, not_false_eq_true, Nat.reduceAdd, Nat.reduceMul, Nat.reduceSub, Nat.reduceLT, Nat.reduceLeDiff, Nat.reduceEqDiff, false_implies, true_implies, implies_true, a1, a6, a4, a5.1, a5.2.2.2.1]
    have h1 : OU (pI σ 322 a (nI (pos + 1))) a c (some x) n ag ln ask kp tp (pos + 1) fg := by
      refine ⟨a1, ?_, a3, a4, a5.ag (Ag.pI (by omega)) (Ag.pI (by omega)), ?_, by omega, ?_, a9, ?_, a11, ?_, ?_, a14, a15, a16, ?_, a18, a19, a20, a21, a22, a23⟩
      all_goals (simp (disch := omega) only [bs_pI, cc_pI, cs_pI, sh_pI, gR_pI, eI_pI, eR_pI, eL_pI, bs_pR, cc_pR, cs_pR, sh_pR, gI_pR, eI_pR, eR_pR, eL_pR, bs_uI, cc_uI, cs_uI, sh_uI, gI_uI, gR_uI, eR_uI, eL_uI, bs_uR, cc_uR, cs_uR, sh_uR, gI_uR, gR_uR, eI_uR, eL_uR, bs_uL, cc_uL, cs_uL, sh_uL, gI_uL, gR_uL, eI_uL, eR_uL, gI_s, gI_d, gR_s, gR_d, eI_s, eI_d, eI_e, eR_s, eR_d, eR_e, eL_s, eL_d, bs_bump, cc_bump, cs_bump, sh_bump, gI_bump, gR_bump, eI_bump, eR_bump, eL_bump]; try assumption)
    have f1 : Fr (oP a) σ (pI σ 322 a (nI (pos + 1))) := Fr.pI (by unfold oP; omega)
    by_cases hp : pos + 1 < tp.length
    · rw [if_pos hp]
      refine c_Signs_signOf (by omega) ?_
      simp only [kI_i]
      exact hk2 hs hp _ h1 f1
    · rw [if_neg hp]
      cases hag : ag with
      | true =>
        rw [hag] at h1
        refine c_Outlet_finish_again h1 (fun σ2 g2 f2 => ?_)
        simp only [kV_v]
        refine c_Signs_signOf (by omega) ?_
        simp only [kI_i]
        have := hk3 hs (by omega) hag σ2
        rw [hag] at this
        exact this g2 (f1.tr f2)
      | false =>
        rw [hag] at h1
        refine c_Outlet_finish_first h1 hn (hm.ag (fun q z1 z2 => Ag.pI (by omega))) hx hkm (fun σ2 g2 m2 f2 => ?_)
        simp only [kV_v]
        refine c_Signs_signOf (by omega) ?_
        simp only [kI_i]
        have := hk4 hs (by omega) hag σ2
        rw [hag] at this
        exact this g2 m2 ((f1.mo (fun q hq => Or.inl hq)).tr f2)
  have g51 : ∀ y : Bool, PW (d + 5) M_Outlet_nextSign 51 [.ref a, uu, uu] [.int (nI y.toNat), .ref a] σ K ↔ PW (d + 5) M_Outlet_nextSign 51 [.ref a, uu, uu] [.int (nI y.toNat), .ref a] σ K := fun _ => Iff.rfl
  cases hB : isB (tp.getD pos 0) with
  | true =>
    rw [if_neg (by decide)]
    exact go (by unfold shf; rw [hB]; rfl)
  | false =>
    rw [if_pos (by decide)]
    refine ⟨a1, ?_⟩
    rw [a8]
    cases hL : isL (tp.getD pos 0) with
    | true =>
      cases hfg : fg with
      | true =>
        rw [if_pos rfl, if_neg (by decide)]
        refine e_Outlet_nextSign_51 a 0 a ⟨a1, Or.inl rfl, fun σ1 e1 => ?_⟩
        subst e1
        refine ⟨a1, ?_⟩
        rw [gI_s, if_pos rfl]
        have := hk1 (by unfold shf; rw [hB, hL, hfg]; rfl) (pI σ 323 a 0)
        rw [hfg] at this
        refine this ?_ (Fr.pI (by unfold oP; omega))
        refine ⟨a1, ?_, a3, a4, a5.ag (Ag.pI (by omega)) (Ag.pI (by omega)), ?_, by omega, ?_, a9, ?_, a11, ?_, ?_, a14, a15, a16, ?_, a18, a19, a20, a21, a22, a23⟩
        all_goals (simp (disch := omega) only [bs_pI, cc_pI, cs_pI, sh_pI, gR_pI, eI_pI, eR_pI, eL_pI, bs_pR, cc_pR, cs_pR, sh_pR, gI_pR, eI_pR, eR_pR, eL_pR, bs_uI, cc_uI, cs_uI, sh_uI, gI_uI, gR_uI, eR_uI, eL_uI, bs_uR, cc_uR, cs_uR, sh_uR, gI_uR, gR_uR, eI_uR, eL_uR, bs_uL, cc_uL, cs_uL, sh_uL, gI_uL, gR_uL, eI_uL, eR_uL, gI_s, gI_d, gR_s, gR_d, eI_s, eI_d, eI_e, eR_s, eR_d, eR_e, eL_s, eL_d, bs_bump, cc_bump, cs_bump, sh_bump, gI_bump, gR_bump, eI_bump, eR_bump, eL_bump]; try first | assumption | rfl)
      | false =>
        rw [if_neg (by decide)]
        exact go (by unfold shf; rw [hB, hL, hfg]; rfl)
    | false =>
      cases hfg : fg with
      | true =>
        rw [if_neg (by decide)]
        exact go (by unfold shf; rw [hB, hL, hfg]; rfl)
      | false =>
        rw [if_pos rfl, if_pos (by decide)]
        refine e_Outlet_nextSign_51 a 1 a ⟨a1, Or.inr rfl, fun σ1 e1 => ?_⟩
        subst e1
        refine ⟨a1, ?_⟩
        rw [gI_s, if_neg (by decide)]
        have := hk1 (by unfold shf; rw [hB, hL, hfg]; rfl) (pI σ 323 a 1)
        rw [hfg] at this
        refine this ?_ (Fr.pI (by unfold oP; omega))
        refine ⟨a1, ?_, a3, a4, a5.ag (Ag.pI (by omega)) (Ag.pI (by omega)), ?_, by omega, ?_, a9, ?_, a11, ?_, ?_, a14, a15, a16, ?_, a18, a19, a20, a21, a22, a23⟩
        all_goals (simp (disch := omega) only [bs_pI, cc_pI, cs_pI, sh_pI, gR_pI, eI_pI, eR_pI, eL_pI, bs_pR, cc_pR, cs_pR, sh_pR, gI_pR, eI_pR, eR_pR, eL_pR, bs_uI, cc_uI, cs_uI, sh_uI, gI_uI, gR_uI, eR_uI, eL_uI, bs_uR, cc_uR, cs_uR, sh_uR, gI_uR, gR_uR, eI_uR, eL_uR, bs_uL, cc_uL, cs_uL, sh_uL, gI_uL, gR_uL, eI_uL, eR_uL, gI_s, gI_d, gR_s, gR_d, eI_s, eI_d, eI_e, eR_s, eR_d, eR_e, eL_s, eL_d, bs_bump, cc_bump, cs_bump, sh_bump, gI_bump, gR_bump, eI_bump, eR_bump, eL_bump]; try first | assumption | rfl)
end COutlet2
