/-! ===== the reference's constructor ===== -/
def mTab : List (Nat × Nat × Nat) := [(705, 4, 8), (706, 2, 8), (707, 3, 32768), (708, 4, 8), (709, 2, 8), (710, 2, 8), (711, 2, 320), (713, 2, 12), (714, 2, 12), (715, 2, 12), (716, 2, 12), (717, 2, 12), (718, 2, 48), (720, 2, 11), (721, 2, 11), (722, 2, 44), (723, 2, 11), (724, 3, 704), (725, 2, 88), (726, 2, 88), (728, 2, 7), (729, 2, 7), (730, 3, 448), (731, 2, 8), (732, 2, 8), (733, 2, 8), (734, 4, 8), (735, 2, 8), (736, 2, 8), (737, 2, 24), (738, 2, 24), (739, 2, 8), (740, 2, 24), (741, 2, 24), (743, 3, 4096), (746, 2, 64), (747, 2, 64), (752, 4, 8), (755, 3, 256), (757, 2, 512), (758, 4, 12)]
def MJ (σ : PH) (A k : Nat) : Prop := nx σ = A + 1 + k ∧ cc σ ≤ 400 + k ∧ cs σ ≤ 20000 + 40000 * k ∧ sh σ A = (1, 11) ∧ (∀ f, gI σ f A = nI 0) ∧ ∀ j, j < k → gR σ (mTab.getD j (0, 0, 0)).1 A = some (A + 1 + j) ∧ sh σ (A + 1 + j) = (mTab.getD j (0, 0, 0)).2 ∧ ∀ i, eI σ (A + 1 + j) i = nI 0
theorem mTab_ne : ∀ k, k < 41 → ∀ j, j < k → (mTab.getD j (0, 0, 0)).1 ≠ (mTab.getD k (0, 0, 0)).1 := by decide
section MInit
variable {d : Nat} {σ σ0 : PH} {K : PO → PH → Prop} {A : Nat}
theorem mj_step {k f kd ln : Nat} {Q : PH → Prop} (h : MJ σ A k) (hg : bs σ = bs σ0 ∧ ∀ q, q < A → Ag σ0 σ q) (hk : k < 41) (hT : mTab.getD k (0, 0, 0) = (f, kd, ln)) (hl : ln ≤ 40000) (hQ : ∀ σ2, MJ σ2 A (k + 1) → (bs σ2 = bs σ0 ∧ ∀ q, q < A → Ag σ0 σ2 q) → Q σ2) : cc σ + 1 ≤ 601024 ∧ cs σ + ln ≤ 7293034 ∧ (∀ σ1 : PH, σ1 = mk σ (kd, ln) ln → sh σ1 A = (1, 11) ∧ (∀ σ2 : PH, σ2 = pR σ1 f A (some (nx σ)) → Q σ2)) := by
  obtain ⟨h1, h2, h3, h4, h5, h6⟩ := h
  refine ⟨by omega, by omega, fun σ1 e1 => ?_⟩
  have g1 : ∀ q, q < A + 1 + k → Ag σ σ1 q := fun q hq => by rw [e1]; exact Ag.mk (by omega)
  have s1 : sh σ1 (A + 1 + k) = (kd, ln) := by rw [e1, ← h1]; exact sh_mk
  have z1 : ∀ i, eI σ1 (A + 1 + k) i = nI 0 := fun i => by rw [e1, ← h1]; exact eI_mk
  have x1 : nx σ1 = A + 1 + (k + 1) := by rw [e1, nx_mk, h1]; omega
  have c1 : bs σ1 = bs σ := by rw [e1]; rfl
  have k1 : cc σ1 = cc σ + 1 := by rw [e1]; rfl
  have w1 : cs σ1 = cs σ + ln := by rw [e1]; rfl
  clear e1
  have o1 : sh σ1 A = (1, 11) := by rw [(g1 A (by omega)).1]; exact h4
  refine ⟨o1, fun σ2 e2 => hQ σ2 ⟨by rw [e2]; exact x1, by rw [e2, cc_pR]; omega, by rw [e2, cs_pR]; omega, by rw [e2]; exact o1, fun g => by rw [e2, gI_pR, (g1 A (by omega)).2.1]; exact h5 g, fun j hj => ?_⟩ ⟨by rw [e2, bs_pR, c1]; exact hg.1, fun q hq => by rw [e2]; exact ((hg.2 q hq).tr (g1 q (by omega))).tr (Ag.pR (by omega))⟩⟩
  rw [e2, sh_pR, eI_pR]
  by_cases hjk : j = k
  · subst hjk
    rw [hT]
    exact ⟨by rw [h1]; exact gR_s, s1, z1⟩
  · obtain ⟨a1, a2, a3⟩ := h6 j (by omega)
    have hne := mTab_ne k hk j (by omega)
    rw [hT] at hne
    refine ⟨?_, ?_, fun i => ?_⟩
    · rw [gR_d (fun q => hne q.1), (g1 A (by omega)).2.2.1]; exact a1
    · rw [(g1 _ (by omega)).1]; exact a2
    · rw [(g1 _ (by omega)).2.2.2.1]; exact a3 i
theorem MJ.z (h : MJ σ A 41) : MZ σ A := ⟨h.2.2.2.1, (h.2.2.2.2.2 0 (by decide)).1, (h.2.2.2.2.2 0 (by decide)).2.1, (h.2.2.2.2.2 1 (by decide)).1, (h.2.2.2.2.2 1 (by decide)).2.1, (h.2.2.2.2.2 2 (by decide)).1, (h.2.2.2.2.2 2 (by decide)).2.1, (h.2.2.2.2.2 3 (by decide)).1, (h.2.2.2.2.2 3 (by decide)).2.1, (h.2.2.2.2.2 4 (by decide)).1, (h.2.2.2.2.2 4 (by decide)).2.1, (h.2.2.2.2.2 5 (by decide)).1, (h.2.2.2.2.2 5 (by decide)).2.1, (h.2.2.2.2.2 6 (by decide)).1, (h.2.2.2.2.2 6 (by decide)).2.1, (h.2.2.2.2.2 7 (by decide)).1, (h.2.2.2.2.2 7 (by decide)).2.1, (h.2.2.2.2.2 8 (by decide)).1, (h.2.2.2.2.2 8 (by decide)).2.1, (h.2.2.2.2.2 9 (by decide)).1, (h.2.2.2.2.2 9 (by decide)).2.1, (h.2.2.2.2.2 10 (by decide)).1, (h.2.2.2.2.2 10 (by decide)).2.1, (h.2.2.2.2.2 11 (by decide)).1, (h.2.2.2.2.2 11 (by decide)).2.1, (h.2.2.2.2.2 12 (by decide)).1, (h.2.2.2.2.2 12 (by decide)).2.1, (h.2.2.2.2.2 13 (by decide)).1, (h.2.2.2.2.2 13 (by decide)).2.1, (h.2.2.2.2.2 14 (by decide)).1, (h.2.2.2.2.2 14 (by decide)).2.1, (h.2.2.2.2.2 15 (by decide)).1, (h.2.2.2.2.2 15 (by decide)).2.1, (h.2.2.2.2.2 16 (by decide)).1, (h.2.2.2.2.2 16 (by decide)).2.1, (h.2.2.2.2.2 17 (by decide)).1, (h.2.2.2.2.2 17 (by decide)).2.1, (h.2.2.2.2.2 18 (by decide)).1, (h.2.2.2.2.2 18 (by decide)).2.1, (h.2.2.2.2.2 19 (by decide)).1, (h.2.2.2.2.2 19 (by decide)).2.1, (h.2.2.2.2.2 20 (by decide)).1, (h.2.2.2.2.2 20 (by decide)).2.1, (h.2.2.2.2.2 21 (by decide)).1, (h.2.2.2.2.2 21 (by decide)).2.1, (h.2.2.2.2.2 22 (by decide)).1, (h.2.2.2.2.2 22 (by decide)).2.1, (h.2.2.2.2.2 23 (by decide)).1, (h.2.2.2.2.2 23 (by decide)).2.1, (h.2.2.2.2.2 24 (by decide)).1, (h.2.2.2.2.2 24 (by decide)).2.1, (h.2.2.2.2.2 25 (by decide)).1, (h.2.2.2.2.2 25 (by decide)).2.1, (h.2.2.2.2.2 26 (by decide)).1, (h.2.2.2.2.2 26 (by decide)).2.1, (h.2.2.2.2.2 27 (by decide)).1, (h.2.2.2.2.2 27 (by decide)).2.1, (h.2.2.2.2.2 28 (by decide)).1, (h.2.2.2.2.2 28 (by decide)).2.1, (h.2.2.2.2.2 29 (by decide)).1, (h.2.2.2.2.2 29 (by decide)).2.1, (h.2.2.2.2.2 30 (by decide)).1, (h.2.2.2.2.2 30 (by decide)).2.1, (h.2.2.2.2.2 31 (by decide)).1, (h.2.2.2.2.2 31 (by decide)).2.1, (h.2.2.2.2.2 32 (by decide)).1, (h.2.2.2.2.2 32 (by decide)).2.1, (h.2.2.2.2.2 33 (by decide)).1, (h.2.2.2.2.2 33 (by decide)).2.1, (h.2.2.2.2.2 34 (by decide)).1, (h.2.2.2.2.2 34 (by decide)).2.1, (h.2.2.2.2.2 35 (by decide)).1, (h.2.2.2.2.2 35 (by decide)).2.1, (h.2.2.2.2.2 36 (by decide)).1, (h.2.2.2.2.2 36 (by decide)).2.1, (h.2.2.2.2.2 37 (by decide)).1, (h.2.2.2.2.2 37 (by decide)).2.1, (h.2.2.2.2.2 38 (by decide)).1, (h.2.2.2.2.2 38 (by decide)).2.1, (h.2.2.2.2.2 39 (by decide)).1, (h.2.2.2.2.2 39 (by decide)).2.1, (h.2.2.2.2.2 40 (by decide)).1, (h.2.2.2.2.2 40 (by decide)).2.1⟩
theorem minit_loop (hk : ∀ σ', MR σ' A S0 → nx σ' = A + 42 → cs σ' ≤ 1660000 → bs σ' = bs σ0 → (∀ q, q < A → Ag σ0 σ' q) → K (.inl none) σ') : ∀ (n c : Nat) (σ : PH), c + n = 8 → MZ σ A → nx σ = A + 42 → cs σ ≤ 1660000 → (∀ f, gI σ f A = nI 0) → (∀ k j, k ≤ 41 → 1 ≤ k → k ≠ 5 → k ≠ 24 → eI σ (A + k) j = nI 0) → (∀ x, x < c → eI σ (A + 5) x = nI 999 ∧ eI σ (A + 24) x = nI 1) → bs σ = bs σ0 → (∀ q, q < A → Ag σ0 σ q) → PW (d + 1) M_Mod_init 340 [.ref A, .int (nI c)] [] σ K := by
  intro n
  induction n with
  | zero =>
    intro c σ hcn hz hx hw h1 h2 h3 hb hq
    have hc : c = 8 := by omega
    subst hc
    refine e_Mod_init_340 A _ ?_
    rw [if_pos (by decide)]
    refine hk σ ⟨hz, fun c hc => ?_, ⟨h1 712, by decide, fun i hi => absurd hi (Nat.not_lt_zero _)⟩, ⟨h1 719, by decide, fun m m1 m2 => absurd m2 (by show ¬ m ≤ 0; omega)⟩, ⟨h1 727, by decide, fun i i1 i2 => absurd i2 (by show ¬ i ≤ 0; omega)⟩⟩ hx hw hb hq
    show MC σ A c cs0
    exact ⟨h2 1 c (by omega) (by omega) (by omega) (by omega), h2 2 c (by omega) (by omega) (by omega) (by omega), by decide, fun i hi => absurd hi (Nat.not_lt_zero _), h2 4 c (by omega) (by omega) (by omega) (by omega), (h3 c hc).1, h2 6 c (by omega) (by omega) (by omega) (by omega), by decide, fun i hi => absurd hi (Nat.not_lt_zero _), (h3 c hc).2, h2 25 c (by omega) (by omega) (by omega) (by omega), fun q => absurd rfl q, h2 29 c (by omega) (by omega) (by omega) (by omega), by decide, fun i hi => absurd hi (Nat.not_lt_zero _), h2 32 c (by omega) (by omega) (by omega) (by omega), by decide, fun i hi => absurd hi (Nat.not_lt_zero _)⟩
  | succ n ih =>
    intro c σ hcn hz hx hw h1 h2 h3 hb hq
    refine e_Mod_init_340 A _ ?_
    rw [if_neg (show ¬ (8 : Int32) ≤ nI c from fun q => by have := (nI_le_iff (a := 8) (by decide) (by omega)).mp q; omega)]
    simp (disch := omega) only [bs_pI, cc_pI, cs_pI, sh_pI, gR_pI, eI_pI, eR_pI, eL_pI, bs_pR, cc_pR, cs_pR, sh_pR, gI_pR, eI_pR, eR_pR, eL_pR, bs_uI, cc_uI, cs_uI, sh_uI, gI_uI, gR_uI, eR_uI, eL_uI, bs_uR, cc_uR, cs_uR, sh_uR, gI_uR, gR_uR, eI_uR, eL_uR, bs_uL, cc_uL, cs_uL, sh_uL, gI_uL, gR_uL, eI_uL, eR_uL, gI_s, gI_d, gR_s, gR_d, eI_s, eI_d, eI_e, eR_s, eR_d, eR_e, eL_s, eL_d, bs_bump, cc_bump, cs_bump, sh_bump, gI_bump, gR_bump, eI_bump, eR_bump, eL_bump, l_0, l_1, l_2, l_3, l_4, l_5, l_6, l_7, l_8, l_9, l_10, l_11, l_12, l_13, l_14, l_15, l_16, l_17, l_18, l_19, l_20, l_21, l_22, l_23, l_24, l_25, l_26, l_27, l_28, l_29, l_30, l_31, l_32, l_33, l_34, l_35, l_36, l_37, l_38, l_39, l_40, l_41, l_42, l_43, l_44, l_45, l_46, l_47, l_48, l_49, l_50, l_51, l_52, l_53, l_54, l_55, l_56, l_57, l_58, l_59, l_60, l_61, l_62, l_63, l_64, l_65, l_66, l_67, l_68, l_69, l_70, l_71, l_72, l_73, l_74, l_75, l_76, l_77, l_78, l_79, l_80, l_81, l_82, l_83, l_84, l_85, l_86, l_87, l_88, l_89, l_90, l_91, l_92, l_93, l_94, l_95, l_96, l_97, l_98, l_99, l_100, l_101, l_102, l_103, l_104, l_105, l_106, l_107, l_108, l_109, l_110, l_111, l_112, l_113, l_114, l_115, l_116, l_117, l_118, l_119, l_120, l_121, l_122, l_123, l_124, l_125, l_126, l_127, l_128, l_129, l_130, l_256, l_512, l_676, l_704, l_999, l_1000, l_4096, l_17576, l_32768, l_65535, l_456975, l_456976, l_m1, l_m2, in_iff, eq_m1, m1_eq, m1_lt, m1_le, le_m1, lt_m1, eq_m2, m2_m1, m1_m2, add_m1, m1_add, sub_n, mul_n, add_n, bo_n0, bo_n1, ch_n, lt_n, le_n, eq_n, ix_n, i2c_n, rem_n, div_n, kI_i, kI_x, kV_v, kV_x, kR_r, kR_n, kR_x, kHI_i, kHI_0, kHI_1, kHV_v, kHV_0, kHV_1, va_s, va_n, exists_eq_left', exists_eq_left, forall_eq, forall_eq', and_true, true_and, and_self, Option.some.injEq, Prod.mk.injEq, if_tt, if_ff, reduceIte, reduceCtorEq, not_true_eq_false, not_false_eq_true, Nat.reduceAdd, Nat.reduceMul, Nat.reduceSub, Nat.reduceLT, Nat.reduceLeDiff, Nat.reduceEqDiff, false_implies, true_implies, implies_true, hz.1, z_709 hz, s_709 hz, z_731 hz, s_731 hz]
    refine ⟨by omega, by omega, ?_⟩
    have f1 : MF noF (fun a _ => a = A + 5 ∨ a = A + 24) A σ (uI (uI σ (A + 5) c (nI 999)) (A + 24) c (nI 1)) := (MF.uI (P := fun a _ => a = A + 5 ∨ a = A + 24) (Or.inl rfl)).tr (MF.uI (P := fun a _ => a = A + 5 ∨ a = A + 24) (Or.inr rfl))
    refine ih (c + 1) _ (by omega) (f1.z hz) hx hw h1 (fun k j k1 k2 k3 k4 => by simp (disch := omega) only [bs_pI, cc_pI, cs_pI, sh_pI, gR_pI, eI_pI, eR_pI, eL_pI, bs_pR, cc_pR, cs_pR, sh_pR, gI_pR, eI_pR, eR_pR, eL_pR, bs_uI, cc_uI, cs_uI, sh_uI, gI_uI, gR_uI, eR_uI, eL_uI, bs_uR, cc_uR, cs_uR, sh_uR, gI_uR, gR_uR, eI_uR, eL_uR, bs_uL, cc_uL, cs_uL, sh_uL, gI_uL, gR_uL, eI_uL, eR_uL, gI_s, gI_d, gR_s, gR_d, eI_s, eI_d, eI_e, eR_s, eR_d, eR_e, eL_s, eL_d, bs_bump, cc_bump, cs_bump, sh_bump, gI_bump, gR_bump, eI_bump, eR_bump, eL_bump]; exact h2 k j k1 k2 k3 k4) (fun y hy => ?_) hb (fun q hq' => (hq q hq').tr ((Ag.uI (by omega)).tr (Ag.uI (by omega))))
    by_cases hyc : y = c
    · subst hyc; simp (disch := omega) only [bs_pI, cc_pI, cs_pI, sh_pI, gR_pI, eI_pI, eR_pI, eL_pI, bs_pR, cc_pR, cs_pR, sh_pR, gI_pR, eI_pR, eR_pR, eL_pR, bs_uI, cc_uI, cs_uI, sh_uI, gI_uI, gR_uI, eR_uI, eL_uI, bs_uR, cc_uR, cs_uR, sh_uR, gI_uR, gR_uR, eI_uR, eL_uR, bs_uL, cc_uL, cs_uL, sh_uL, gI_uL, gR_uL, eI_uL, eR_uL, gI_s, gI_d, gR_s, gR_d, eI_s, eI_d, eI_e, eR_s, eR_d, eR_e, eL_s, eL_d, bs_bump, cc_bump, cs_bump, sh_bump, gI_bump, gR_bump, eI_bump, eR_bump, eL_bump]; exact ⟨by first | trivial | rfl, by first | trivial | rfl⟩
    · simp (disch := omega) only [bs_pI, cc_pI, cs_pI, sh_pI, gR_pI, eI_pI, eR_pI, eL_pI, bs_pR, cc_pR, cs_pR, sh_pR, gI_pR, eI_pR, eR_pR, eL_pR, bs_uI, cc_uI, cs_uI, sh_uI, gI_uI, gR_uI, eR_uI, eL_uI, bs_uR, cc_uR, cs_uR, sh_uR, gI_uR, gR_uR, eI_uR, eL_uR, bs_uL, cc_uL, cs_uL, sh_uL, gI_uL, gR_uL, eI_uL, eR_uL, gI_s, gI_d, gR_s, gR_d, eI_s, eI_d, eI_e, eR_s, eR_d, eR_e, eL_s, eL_d, bs_bump, cc_bump, cs_bump, sh_bump, gI_bump, gR_bump, eI_bump, eR_bump, eL_bump]; exact h3 y (by omega)
theorem i_Mod (hx : nx σ = A + 1) (hb : Bk σ A 11) (h1 : cc σ ≤ 400) (h2 : cs σ ≤ 20000) (hk : ∀ σ', MR σ' A S0 → nx σ' = A + 42 → cs σ' ≤ 1660000 → bs σ' = bs σ → (∀ q, q < A → Ag σ σ' q) → K (.inl none) σ') : PW (d + 1) M_Mod_init 0 [.ref A, uu] [] σ K := by
  have j0 : MJ σ A 0 := ⟨hx, by omega, by omega, hb.1, hb.2.1, fun j hj => absurd hj (Nat.not_lt_zero _)⟩
  have g0 : bs σ = bs σ ∧ ∀ q, q < A → Ag σ σ q := ⟨rfl, fun _ _ => Ag.rf⟩
  refine e_Mod_init_0 A ?_
  refine mj_step (σ0 := σ) (k := 0) j0 g0 (by decide) rfl (by decide) (fun σ1 j1 g1 => ?_)
  refine mj_step (σ0 := σ) (k := 1) j1 g1 (by decide) rfl (by decide) (fun σ2 j2 g2 => ?_)
  refine mj_step (σ0 := σ) (k := 2) j2 g2 (by decide) rfl (by decide) (fun σ3 j3 g3 => ?_)
  refine mj_step (σ0 := σ) (k := 3) j3 g3 (by decide) rfl (by decide) (fun σ4 j4 g4 => ?_)
  refine mj_step (σ0 := σ) (k := 4) j4 g4 (by decide) rfl (by decide) (fun σ5 j5 g5 => ?_)
  refine mj_step (σ0 := σ) (k := 5) j5 g5 (by decide) rfl (by decide) (fun σ6 j6 g6 => ?_)
  refine mj_step (σ0 := σ) (k := 6) j6 g6 (by decide) rfl (by decide) (fun σ7 j7 g7 => ?_)
  refine mj_step (σ0 := σ) (k := 7) j7 g7 (by decide) rfl (by decide) (fun σ8 j8 g8 => ?_)
  refine mj_step (σ0 := σ) (k := 8) j8 g8 (by decide) rfl (by decide) (fun σ9 j9 g9 => ?_)
  refine mj_step (σ0 := σ) (k := 9) j9 g9 (by decide) rfl (by decide) (fun σ10 j10 g10 => ?_)
  refine mj_step (σ0 := σ) (k := 10) j10 g10 (by decide) rfl (by decide) (fun σ11 j11 g11 => ?_)
  refine mj_step (σ0 := σ) (k := 11) j11 g11 (by decide) rfl (by decide) (fun σ12 j12 g12 => ?_)
  refine mj_step (σ0 := σ) (k := 12) j12 g12 (by decide) rfl (by decide) (fun σ13 j13 g13 => ?_)
  refine mj_step (σ0 := σ) (k := 13) j13 g13 (by decide) rfl (by decide) (fun σ14 j14 g14 => ?_)
  refine mj_step (σ0 := σ) (k := 14) j14 g14 (by decide) rfl (by decide) (fun σ15 j15 g15 => ?_)
  refine mj_step (σ0 := σ) (k := 15) j15 g15 (by decide) rfl (by decide) (fun σ16 j16 g16 => ?_)
  refine mj_step (σ0 := σ) (k := 16) j16 g16 (by decide) rfl (by decide) (fun σ17 j17 g17 => ?_)
  refine mj_step (σ0 := σ) (k := 17) j17 g17 (by decide) rfl (by decide) (fun σ18 j18 g18 => ?_)
  refine mj_step (σ0 := σ) (k := 18) j18 g18 (by decide) rfl (by decide) (fun σ19 j19 g19 => ?_)
  refine mj_step (σ0 := σ) (k := 19) j19 g19 (by decide) rfl (by decide) (fun σ20 j20 g20 => ?_)
  refine mj_step (σ0 := σ) (k := 20) j20 g20 (by decide) rfl (by decide) (fun σ21 j21 g21 => ?_)
  refine mj_step (σ0 := σ) (k := 21) j21 g21 (by decide) rfl (by decide) (fun σ22 j22 g22 => ?_)
  refine mj_step (σ0 := σ) (k := 22) j22 g22 (by decide) rfl (by decide) (fun σ23 j23 g23 => ?_)
  refine mj_step (σ0 := σ) (k := 23) j23 g23 (by decide) rfl (by decide) (fun σ24 j24 g24 => ?_)
  refine mj_step (σ0 := σ) (k := 24) j24 g24 (by decide) rfl (by decide) (fun σ25 j25 g25 => ?_)
  refine mj_step (σ0 := σ) (k := 25) j25 g25 (by decide) rfl (by decide) (fun σ26 j26 g26 => ?_)
  refine mj_step (σ0 := σ) (k := 26) j26 g26 (by decide) rfl (by decide) (fun σ27 j27 g27 => ?_)
  refine mj_step (σ0 := σ) (k := 27) j27 g27 (by decide) rfl (by decide) (fun σ28 j28 g28 => ?_)
  refine mj_step (σ0 := σ) (k := 28) j28 g28 (by decide) rfl (by decide) (fun σ29 j29 g29 => ?_)
  refine mj_step (σ0 := σ) (k := 29) j29 g29 (by decide) rfl (by decide) (fun σ30 j30 g30 => ?_)
  refine mj_step (σ0 := σ) (k := 30) j30 g30 (by decide) rfl (by decide) (fun σ31 j31 g31 => ?_)
  refine mj_step (σ0 := σ) (k := 31) j31 g31 (by decide) rfl (by decide) (fun σ32 j32 g32 => ?_)
  refine mj_step (σ0 := σ) (k := 32) j32 g32 (by decide) rfl (by decide) (fun σ33 j33 g33 => ?_)
  refine mj_step (σ0 := σ) (k := 33) j33 g33 (by decide) rfl (by decide) (fun σ34 j34 g34 => ?_)
  refine mj_step (σ0 := σ) (k := 34) j34 g34 (by decide) rfl (by decide) (fun σ35 j35 g35 => ?_)
  refine mj_step (σ0 := σ) (k := 35) j35 g35 (by decide) rfl (by decide) (fun σ36 j36 g36 => ?_)
  refine mj_step (σ0 := σ) (k := 36) j36 g36 (by decide) rfl (by decide) (fun σ37 j37 g37 => ?_)
  refine mj_step (σ0 := σ) (k := 37) j37 g37 (by decide) rfl (by decide) (fun σ38 j38 g38 => ?_)
  refine mj_step (σ0 := σ) (k := 38) j38 g38 (by decide) rfl (by decide) (fun σ39 j39 g39 => ?_)
  refine mj_step (σ0 := σ) (k := 39) j39 g39 (by decide) rfl (by decide) (fun σ40 j40 g40 => ?_)
  refine mj_step (σ0 := σ) (k := 40) j40 g40 (by decide) rfl (by decide) (fun σ41 j41 g41 => ?_)
  obtain ⟨a1, a2, a3, a4, a5, a6⟩ := j41
  refine minit_loop (σ0 := σ) hk 8 0 σ41 (by omega) (MJ.z ⟨a1, a2, a3, a4, a5, a6⟩) a1 (by omega) a5 (fun k j k1 k2 _ _ => ?_) (fun y hy => absurd hy (Nat.not_lt_zero _)) g41.1 g41.2
  have := (a6 (k - 1) (by omega)).2.2 j
  rw [show A + 1 + (k - 1) = A + k by omega] at this
  exact this
end MInit
