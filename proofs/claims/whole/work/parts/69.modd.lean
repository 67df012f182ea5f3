/-! ===== the reference: pick, sent, send ===== -/
def ON (σ : PH) (A c : Nat) (s : CS) : Prop := eI σ (A + 24) c = nI (nb (sLn s)) ∧ eI σ (A + 25) c = nI (sSd s).1 ∧ ((sSd s).1 ≠ 0 → eI σ (A + 26) c = nI (sSd s).2.1 ∧ eI σ (A + 27) c = nI (sSd s).2.2.toNat ∧ eI σ (A + 28) c = nI (sOut s)) ∧ eI σ (A + 29) c = nI (sSent s).length ∧ (sSent s).length ≤ 3 ∧ (∀ i, i < (sSent s).length → eI σ (A + 30) (3 * c + i) = nI ((sSent s).getD i (0, 0)).1 ∧ eI σ (A + 31) (3 * c + i) = nI ((sSent s).getD i (0, 0)).2) ∧ eI σ (A + 32) c = nI (sAsk s).length ∧ (sAsk s).length ≤ 3 ∧ (∀ i, i < (sAsk s).length → eI σ (A + 33) (3 * c + i) = nI ((sAsk s).getD i (0, 0)).1 ∧ eI σ (A + 34) (3 * c + i) = nI ((sAsk s).getD i (0, 0)).2)
def ouP (A c a j : Nat) : Prop := ((a = A + 24 ∨ a = A + 25 ∨ a = A + 26 ∨ a = A + 27 ∨ a = A + 28 ∨ a = A + 29 ∨ a = A + 32) ∧ j = c) ∨ ((a = A + 30 ∨ a = A + 31 ∨ a = A + 33 ∨ a = A + 34) ∧ j / 3 = c)
/-- with a fate's elements -/
def ofP (A c a j : Nat) : Prop := ouP A c a j ∨ a = A + 19 ∨ a = A + 20
def Bt (M : List MS) : Prop := ∀ m, 1 ≤ m → m ≤ M.length → (msg M m).1 ≤ 4 ∧ (msg M m).2.1.length ≤ 4 ∧ (∀ k ∈ (msg M m).2.1, k < 456976) ∧ (msg M m).2.2.1.length ≤ 60 ∧ (∀ x ∈ (msg M m).2.2.1, x < 128) ∧ 5 * (msg M m).2.1.length + (msg M m).2.2.1.length ≤ 54
theorem Bd.bt {S : SP} (h : Bd S) : Bt S.2.1 := fun m m1 m2 => by
  obtain ⟨a1, a2, a3, a4, a5, a6, a7⟩ := h.1 m m1 m2
  exact ⟨a1, a2, a3, a4, a5, a7⟩
theorem Bt.sm {M M' : List MS} (h : Bt M) (hl : M'.length = M.length) (hs : SmT M M') : Bt M' := fun m m1 m2 => by
  obtain ⟨e1, e2, e3⟩ := hs m m1 (by omega)
  rw [e1, e2, e3]
  exact h m m1 (by omega)
theorem uFate_len {M : List MS} {m c F : Nat} : (uFate M m c F).length = M.length := by unfold uFate; rw [List.length_set]
theorem tape_lt {x : MS} {n : Nat} {ag : Bool} (h1 : x.1 ≤ 4) (h2 : ∀ v ∈ x.2.2.1, v < 128) : ∀ v ∈ tape x n ag, v < 128 := by
  intro v hv
  unfold tape at hv
  rcases List.mem_append.mp hv with hv | hv
  · rcases List.mem_append.mp hv with hv | hv
    · rcases List.mem_append.mp hv with hv | hv
      · rcases List.mem_append.mp hv with hv | hv
        · unfold tHead at hv
          rcases List.mem_append.mp hv with hv | hv
          · rcases List.mem_append.mp hv with hv | hv
            · rcases List.mem_append.mp hv with hv | hv
              · unfold dig3 at hv
                simp only [List.mem_cons, List.not_mem_nil, or_false] at hv
                rcases hv with hv | hv | hv <;> omega
              · rw [List.mem_singleton.mp hv]; decide
            · cases ag with
              | true =>
                rw [if_pos rfl] at hv
                simp only [List.mem_cons, List.not_mem_nil, or_false] at hv
                rcases hv with hv | hv <;> omega
              | false => rw [if_neg (by decide)] at hv; exact absurd hv List.not_mem_nil
          · rw [List.mem_singleton.mp hv]; omega
        · unfold tInd at hv
          obtain ⟨k, -, hv⟩ := List.mem_flatMap.mp hv
          unfold let4 at hv
          simp only [List.mem_cons, List.not_mem_nil, or_false] at hv
          rcases hv with hv | hv | hv | hv | hv <;> omega
      · rw [List.mem_singleton.mp hv]; decide
    · unfold tBody at hv
      split at hv
      · rcases List.mem_append.mp hv with hv | hv
        · exact h2 v hv
        · rw [List.mem_singleton.mp hv]; decide
      · exact h2 v hv
  · simp only [List.mem_cons, List.not_mem_nil, or_false] at hv
    rcases hv with hv | hv | hv | hv | hv <;> omega
theorem run_mo {tp : List Nat} {n m : Nat} (h : n ≤ m) : (run tp n).1 ≤ (run tp m).1 := by
  induction m with
  | zero => rw [show n = 0 by omega]; exact Nat.le_refl _
  | succ m ih =>
    by_cases hn : n = m + 1
    · rw [hn]; exact Nat.le_refl _
    · have := ih (by omega)
      have h2 : (run tp m).1 ≤ (run tp (m + 1)).1 := by
        rw [run]
        unfold stp
        split
        · exact Nat.le_refl _
        · show _ ≤ _ + 1; omega
      omega
section ModD
variable {d : Nat} {σ : PH} {K : PO → PH → Prop} {A : Nat} {S : SP} {c : Nat} {s : CS}
theorem MC.on (h : MC σ A c s) : ON σ A c s := by
  obtain ⟨a1, a2, a3, a4, a5, a6, a7, a8, a9, a10, a11, a12, a13, a14, a15, a16, a17, a18⟩ := h
  exact ⟨a10, a11, a12, a13, a14, a15, a16, a17, a18⟩
theorem MC.ou {σ' : PH} {F : Nat → Prop} {ln o : Nat} {sd : Nat × Nat × Bool} {se as : List (Nat × Nat)} (h : MC σ A c s) (hf : MF F (ofP A c) A σ σ') (hn : ON σ' A c (wOu s ln sd o se as)) : MC σ' A c (wOu s ln sd o se as) := by
  obtain ⟨a1, a2, a3, a4, a5, a6, a7, a8, a9, a10, a11, a12, a13, a14, a15, a16, a17, a18⟩ := h
  obtain ⟨b1, b2, b3, b4, b5, b6, b7, b8, b9⟩ := hn
  exact ⟨by rw [hf.eI (by unfold ofP ouP; omega)]; exact a1, by rw [hf.eI (by unfold ofP ouP; omega)]; exact a2, a3, fun i hi => by rw [hf.eI (by unfold ofP ouP; omega)]; exact a4 i hi, by rw [hf.eI (by unfold ofP ouP; omega)]; exact a5, by rw [hf.eI (by unfold ofP ouP; omega)]; exact a6, by rw [hf.eI (by unfold ofP ouP; omega)]; exact a7, a8, fun i hi => by rw [hf.eI (by unfold ofP ouP; omega)]; exact a9 i hi, b1, b2, b3, b4, b5, b6, b7, b8, b9⟩
theorem ou_own {a j : Nat} (q : ouP A c a j) : ∃ k, a = A + k ∧ own c k j := by
  unfold ouP at q
  rcases q with ⟨q1 | q1 | q1 | q1 | q1 | q1 | q1, q2⟩ | ⟨q1 | q1 | q1 | q1, q2⟩
  · exact ⟨24, q1, by unfold own; omega⟩
  · exact ⟨25, q1, by unfold own; omega⟩
  · exact ⟨26, q1, by unfold own; omega⟩
  · exact ⟨27, q1, by unfold own; omega⟩
  · exact ⟨28, q1, by unfold own; omega⟩
  · exact ⟨29, q1, by unfold own; omega⟩
  · exact ⟨32, q1, by unfold own; omega⟩
  · exact ⟨30, q1, by unfold own; omega⟩
  · exact ⟨31, q1, by unfold own; omega⟩
  · exact ⟨33, q1, by unfold own; omega⟩
  · exact ⟨34, q1, by unfold own; omega⟩
theorem MF.ouc {σ' : PH} (h : MF noF (ouP A c) A σ σ') : MF scF (chF A c) A σ σ' := h.mo (fun f q => q.elim) (fun a j q => Or.inr (ou_own q))
theorem MF.ouo {σ' : PH} (h : MF noF (ouP A c) A σ σ') : MF noF (ofP A c) A σ σ' := h.mo (fun f q => q) (fun a j q => Or.inl q)
theorem MF.ouf {σ' : PH} (h : MF noF (ofP A c) A σ σ') : Fr (gP A) σ σ' := h.fr (fun a j q => by unfold ofP ouP at q; unfold gP; omega)
/-- a channel's out side and a fate have changed -/
theorem MR.both {σ' : PH} {M : List MS} (h : MR σ A S) (hf : MF noF (ofP A c) A σ σ') (hs : MC σ' A c s) (hm : MM σ' A M) : MR σ' A (uM (uC S c s) M) := by
  obtain ⟨h1, h2, h3, h4, h5⟩ := h
  have key : ∀ k j, (k ≤ 34) → ¬ own c k j → k ≠ 19 → k ≠ 20 → eI σ' (A + k) j = eI σ (A + k) j := fun k j hk ho h19 h20 => hf.eI (fun q => by
    rcases q with q | q
    · obtain ⟨k', e, q⟩ := ou_own q
      rw [show k' = k by omega] at q; exact ho q
    · omega)
  refine ⟨hf.z h1, fun x hx => ?_, h3.ag (hf.gI id) (fun k j k1 k2 => key k j (by omega) (by unfold own; omega) (by omega) (by omega)), hm, h5.ag (hf.gI id) (fun k j k1 k2 => key k j (by omega) (by unfold own; omega) (by omega) (by omega))⟩
  show MC σ' A x (if x = c then s else S.1 x)
  by_cases hxc : x = c
  · rw [if_pos hxc, hxc]; exact hs
  · rw [if_neg hxc]
    exact (h2 x hx).ag (fun k j hk => key k j (by unfold own at hk; omega) (by unfold own at *; omega) (by unfold own at hk; omega) (by unfold own at hk; omega))
theorem MM.fate {σ' : PH} {M : List MS} {m F : Nat} (h : MM σ A M) (hc : c < 8) (h1 : 1 ≤ m) (h2 : m ≤ M.length) (hg : gI σ' 719 A = gI σ 719 A) (he : ∀ k j, 14 ≤ k → k ≤ 20 → ¬ ((k = 19 ∨ k = 20) ∧ j = 8 * m + c) → eI σ' (A + k) j = eI σ (A + k) j) (h19 : eI σ' (A + 19) (8 * m + c) = nI (min F 3)) (h20 : 3 ≤ F → eI σ' (A + 20) (8 * m + c) = nI (F - 2)) : MM σ' A (uFate M m c F) := by
  obtain ⟨a1, a2, a3⟩ := h
  refine ⟨by rw [hg, uFate_len]; exact a1, by rw [uFate_len]; exact a2, fun x x1 x2 => ?_⟩
  rw [uFate_len] at x2
  obtain ⟨e1, e2, e3⟩ := SmT.fate (c := c) (F := F) h1 h2 x x1 x2
  obtain ⟨b1, b2, b3, b4, b5, b6, b7, b8⟩ := a3 x x1 x2
  rw [e1, e2, e3]
  refine ⟨by rw [he 14 _ (by omega) (by omega) (by omega)]; exact b1, by rw [he 15 _ (by omega) (by omega) (by omega)]; exact b2, b3, fun k hk => by rw [he 16 _ (by omega) (by omega) (by omega)]; exact b4 k hk, by rw [he 17 _ (by omega) (by omega) (by omega)]; exact b5, b6, fun k hk => by rw [he 18 _ (by omega) (by omega) (by omega)]; exact b7 k hk, fun y hy => ?_⟩
  unfold uFate
  rw [msg_set h1 h2 x1]
  by_cases hxm : x = m
  · rw [if_pos hxm]
    show eI σ' (A + 19) (8 * x + y) = nI (min (if y = c then F else (msg M m).2.2.2 y) 3) ∧ (3 ≤ (if y = c then F else (msg M m).2.2.2 y) → eI σ' (A + 20) (8 * x + y) = nI ((if y = c then F else (msg M m).2.2.2 y) - 2))
    subst hxm
    by_cases hyc : y = c
    · rw [if_pos hyc, hyc]; exact ⟨h19, h20⟩
    · rw [if_neg hyc, he 19 _ (by omega) (by omega) (by omega), he 20 _ (by omega) (by omega) (by omega)]
      exact b8 y hy
  · rw [if_neg hxm, he 19 _ (by omega) (by omega) (by omega), he 20 _ (by omega) (by omega) (by omega)]
    exact b8 y hy
theorem pick_shift {m k : Nat} {rest : List (Nat × Nat)} {σ0 : PH} (hc : c < 8) (hl : rest.length + 1 ≤ 3) (hk : ∀ σ', MZ σ' A → (∀ i, i < rest.length → eI σ' (A + 33) (3 * c + i) = nI (rest.getD i (0, 0)).1 ∧ eI σ' (A + 34) (3 * c + i) = nI (rest.getD i (0, 0)).2) → MF noF (fun a j => (a = A + 33 ∨ a = A + 34) ∧ j / 3 = c) A σ0 σ' → K (.inl none) σ') : ∀ (n i : Nat) (σ : PH), i + n = rest.length → MZ σ A → eI σ (A + 32) c = nI rest.length → (∀ j, j < i → eI σ (A + 33) (3 * c + j) = nI (rest.getD j (0, 0)).1 ∧ eI σ (A + 34) (3 * c + j) = nI (rest.getD j (0, 0)).2) → (∀ j, i ≤ j → j < rest.length + 1 → eI σ (A + 33) (3 * c + j) = nI (((m, k) :: rest).getD j (0, 0)).1 ∧ eI σ (A + 34) (3 * c + j) = nI (((m, k) :: rest).getD j (0, 0)).2) → MF noF (fun a j => (a = A + 33 ∨ a = A + 34) ∧ j / 3 = c) A σ0 σ → PW (d + 1) M_Mod_pick 63 [.ref A, .int (nI c), .int (nI i), uu, uu] [] σ K := by
  intro n
  induction n with
  | zero =>
    intro i σ hin hz h32 e1 e2 hf
    refine e_Mod_pick_63 A _ _ ⟨hz.1, A + 32, z_739 hz, 8, s_739 hz, in_n hc (by decide), ?_⟩
    rw [ix_n (by omega), h32, if_pos ((nI_le_iff (by omega) (by omega)).mpr (by omega))]
    exact hk σ hz (fun j hj => e1 j (by omega)) hf
  | succ n ih =>
    intro i σ hin hz h32 e1 e2 hf
    refine e_Mod_pick_63 A _ _ ⟨hz.1, A + 32, z_739 hz, 8, s_739 hz, in_n hc (by decide), ?_⟩
    rw [ix_n (by omega), h32, if_neg (fun q => by have := (nI_le_iff (by omega) (by omega)).mp q; omega)]
    simp (disch := omega) only [bs_pI, cc_pI, cs_pI, sh_pI, gR_pI, eI_pI, eR_pI, eL_pI, bs_pR, cc_pR, cs_pR, sh_pR, gI_pR, eI_pR, eR_pR, eL_pR, bs_uI, cc_uI, cs_uI, sh_uI, gI_uI, gR_uI, eR_uI, eL_uI, bs_uR, cc_uR, cs_uR, sh_uR, gI_uR, gR_uR, eI_uR, eL_uR, bs_uL, cc_uL, cs_uL, sh_uL, gI_uL, gR_uL, eI_uL, eR_uL, gI_s, gI_d, gR_s, gR_d, eI_s, eI_d, eI_e, eR_s, eR_d, eR_e, eL_s, eL_d, bs_bump, cc_bump, cs_bump, sh_bump, gI_bump, gR_bump, eI_bump, eR_bump, eL_bump, l_0, l_1, l_2, l_3, l_4, l_5, l_6, l_7, l_8, l_9, l_10, l_11, l_12, l_13, l_14, l_15, l_16, l_17, l_18, l_19, l_20, l_21, l_22, l_23, l_24, l_25, l_26, l_27, l_28, l_29, l_30, l_31, l_32, l_33, l_34, l_35, l_36, l_37, l_38, l_39, l_40, l_41, l_42, l_43, l_44, l_45, l_46, l_47, l_48, l_49, l_50, l_51, l_52, l_53, l_54, l_55, l_56, l_57, l_58, l_59, l_60, l_61, l_62, l_63, l_64, l_65, l_66, l_67, l_68, l_69, l_70, l_71, l_72, l_73, l_74, l_75, l_76, l_77, l_78, l_79, l_80, l_81, l_82, l_83, l_84, l_85, l_86, l_87, l_88, l_89, l_90, l_91, l_92, l_93, l_94, l_95, l_96, l_97, l_98, l_99, l_100, l_101, l_102, l_103, l_104, l_105, l_106, l_107, l_108, l_109, l_110, l_111, l_112, l_113, l_114, l_115, l_116, l_117, l_118, l_119, l_120, l_121, l_122, l_123, l_124, l_125, l_126, l_127, l_128, l_129, l_130, l_256, l_512, l_676, l_704, l_999, l_1000, l_4096, l_17576, l_32768, l_65535, l_456975, l_456976, l_m1, l_m2, in_iff, eq_m1, m1_eq, m1_lt, m1_le, le_m1, lt_m1, eq_m2, m2_m1, m1_m2, add_m1, m1_add, sub_n, mul_n, add_n, bo_n0, bo_n1, ch_n, lt_n, le_n, eq_n, ix_n, i2c_n, rem_n, div_n, kI_i, kI_x, kV_v, kV_x, kR_r, kR_n, kR_x, kHI_i, kHI_0, kHI_1, kHV_v, kHV_0, kHV_1, va_s, va_n, exists_eq_left', exists_eq_left, forall_eq, forall_eq', and_true, true_and, and_self, Option.some.injEq, Prod.mk.injEq, if_tt, if_ff, reduceIte, reduceCtorEq, not_true_eq_false, not_false_eq_true, Nat.reduceAdd, Nat.reduceMul, Nat.reduceSub, Nat.reduceLT, Nat.reduceLeDiff, Nat.reduceEqDiff, false_implies, true_implies, implies_true, hz.1, z_740 hz, s_740 hz, z_741 hz, s_741 hz]
    refine ⟨by omega, by omega, by omega, by omega, ?_⟩
    have f1 : MF noF (fun a j => (a = A + 33 ∨ a = A + 34) ∧ j / 3 = c) A σ (uI (uI σ (A + 33) (3 * c + i) (eI σ (A + 33) (3 * c + i + 1))) (A + 34) (3 * c + i) (eI σ (A + 34) (3 * c + i + 1))) := (MF.uI (P := fun a j => (a = A + 33 ∨ a = A + 34) ∧ j / 3 = c) ⟨Or.inl rfl, by omega⟩).tr (MF.uI (P := fun a j => (a = A + 33 ∨ a = A + 34) ∧ j / 3 = c) ⟨Or.inr rfl, by omega⟩)
    refine ih (i + 1) _ (by omega) (f1.z hz) (by simp (disch := omega) only [bs_pI, cc_pI, cs_pI, sh_pI, gR_pI, eI_pI, eR_pI, eL_pI, bs_pR, cc_pR, cs_pR, sh_pR, gI_pR, eI_pR, eR_pR, eL_pR, bs_uI, cc_uI, cs_uI, sh_uI, gI_uI, gR_uI, eR_uI, eL_uI, bs_uR, cc_uR, cs_uR, sh_uR, gI_uR, gR_uR, eI_uR, eL_uR, bs_uL, cc_uL, cs_uL, sh_uL, gI_uL, gR_uL, eI_uL, eR_uL, gI_s, gI_d, gR_s, gR_d, eI_s, eI_d, eI_e, eR_s, eR_d, eR_e, eL_s, eL_d, bs_bump, cc_bump, cs_bump, sh_bump, gI_bump, gR_bump, eI_bump, eR_bump, eL_bump]; exact h32) (fun j hj => ?_) (fun j hj hj2 => by simp (disch := omega) only [bs_pI, cc_pI, cs_pI, sh_pI, gR_pI, eI_pI, eR_pI, eL_pI, bs_pR, cc_pR, cs_pR, sh_pR, gI_pR, eI_pR, eR_pR, eL_pR, bs_uI, cc_uI, cs_uI, sh_uI, gI_uI, gR_uI, eR_uI, eL_uI, bs_uR, cc_uR, cs_uR, sh_uR, gI_uR, gR_uR, eI_uR, eL_uR, bs_uL, cc_uL, cs_uL, sh_uL, gI_uL, gR_uL, eI_uL, eR_uL, gI_s, gI_d, gR_s, gR_d, eI_s, eI_d, eI_e, eR_s, eR_d, eR_e, eL_s, eL_d, bs_bump, cc_bump, cs_bump, sh_bump, gI_bump, gR_bump, eI_bump, eR_bump, eL_bump]; exact e2 j (by omega) hj2) (hf.tr f1)
    by_cases hji : j = i
    · subst hji
      simp (disch := omega) only [bs_pI, cc_pI, cs_pI, sh_pI, gR_pI, eI_pI, eR_pI, eL_pI, bs_pR, cc_pR, cs_pR, sh_pR, gI_pR, eI_pR, eR_pR, eL_pR, bs_uI, cc_uI, cs_uI, sh_uI, gI_uI, gR_uI, eR_uI, eL_uI, bs_uR, cc_uR, cs_uR, sh_uR, gI_uR, gR_uR, eI_uR, eL_uR, bs_uL, cc_uL, cs_uL, sh_uL, gI_uL, gR_uL, eI_uL, eR_uL, gI_s, gI_d, gR_s, gR_d, eI_s, eI_d, eI_e, eR_s, eR_d, eR_e, eL_s, eL_d, bs_bump, cc_bump, cs_bump, sh_bump, gI_bump, gR_bump, eI_bump, eR_bump, eL_bump]
      exact e2 (j + 1) (by omega) (by omega)
    · simp (disch := omega) only [bs_pI, cc_pI, cs_pI, sh_pI, gR_pI, eI_pI, eR_pI, eL_pI, bs_pR, cc_pR, cs_pR, sh_pR, gI_pR, eI_pR, eR_pR, eL_pR, bs_uI, cc_uI, cs_uI, sh_uI, gI_uI, gR_uI, eR_uI, eL_uI, bs_uR, cc_uR, cs_uR, sh_uR, gI_uR, gR_uR, eI_uR, eL_uR, bs_uL, cc_uL, cs_uL, sh_uL, gI_uL, gR_uL, eI_uL, eR_uL, gI_s, gI_d, gR_s, gR_d, eI_s, eI_d, eI_e, eR_s, eR_d, eR_e, eL_s, eL_d, bs_bump, cc_bump, cs_bump, sh_bump, gI_bump, gR_bump, eI_bump, eR_bump, eL_bump]
      exact e1 j (by omega)
theorem c_pick {T : Nat} (hM : MR σ A S) (hI : Inv S T) (hT : T ≤ 600) (hB : Bt S.2.1) (hc : c < 8) (hsd : (sSd (S.1 c)).1 = 0) (hk : ∀ σ', MR σ' A (spPick S c) → gI σ' 704 A = gI σ 704 A → Fr (gP A) σ σ' → K (.inl none) σ') : PW (d + 1) M_Mod_pick 0 [.ref A, .int (nI c), uu, uu, uu] [] σ K := by
  have hz := hM.1
  have mc := hM.2.1 c hc
  obtain ⟨b1, b2, b3, b4, b5, b6, b7, b8, b9⟩ := mc.on
  obtain ⟨m1', m2', m3'⟩ := hM.2.2.2.1
  obtain ⟨I1, I2, I3, I4, I5⟩ := hI
  obtain ⟨j1, j2, j3, j4, j5, j6, j7, j8, j9, j10, j11, j12, j13⟩ := I4 c hc
  have hnb : nb (sLn (S.1 c)) ≤ 999 := nb_in.2
  have f1 : MF noF (ouP A c) A σ (uI σ (A + 28) c (nI 0)) := MF.uI (by unfold ouP; omega)
  refine e_Mod_pick_0 A _ ⟨hz.1, A + 28, z_735 hz, 8, s_735 hz, in_n hc (by decide), fun σ1 e1 => ?_⟩
  rw [ix_n (by omega)] at e1
  have e1' : σ1 = uI σ (A + 28) c (nI 0) := e1
  subst e1'
  have z1 := f1.z hz
  have h32 : eI (uI σ (A + 28) c (nI 0)) (A + 32) c = nI (sAsk (S.1 c)).length := by simp (disch := omega) only [bs_pI, cc_pI, cs_pI, sh_pI, gR_pI, eI_pI, eR_pI, eL_pI, bs_pR, cc_pR, cs_pR, sh_pR, gI_pR, eI_pR, eR_pR, eL_pR, bs_uI, cc_uI, cs_uI, sh_uI, gI_uI, gR_uI, eR_uI, eL_uI, bs_uR, cc_uR, cs_uR, sh_uR, gI_uR, gR_uR, eI_uR, eL_uR, bs_uL, cc_uL, cs_uL, sh_uL, gI_uL, gR_uL, eI_uL, eR_uL, gI_s, gI_d, gR_s, gR_d, eI_s, eI_d, eI_e, eR_s, eR_d, eR_e, eL_s, eL_d, bs_bump, cc_bump, cs_bump, sh_bump, gI_bump, gR_bump, eI_bump, eR_bump, eL_bump]; exact b7
  refine ⟨z1.1, A + 32, z_739 z1, 8, s_739 z1, in_n hc (by decide), ?_⟩
  rw [ix_n (by omega), h32]
  unfold spPick at hk
  rw [if_neg (fun q => q hsd)] at hk
  cases ha : sAsk (S.1 c) with
  | cons p rest =>
    obtain ⟨m, k⟩ := p
    rw [ha] at hk b8 b9
    have b8 : rest.length + 1 ≤ 3 := b8
    rw [if_neg (show ¬ nI ((m, k) :: rest).length ≤ 0 from fun q => by have := (nI_le_iff (b := 0) (by show rest.length + 1 < _; omega) (by decide)).mp q; exact absurd this (by show ¬ rest.length + 1 ≤ 0; omega))]
    have b90 := b9 0 (by show 0 < rest.length + 1; omega)
    simp only [Nat.add_zero] at b90
    have b91 : eI σ (A + 33) (3 * c) = nI m := b90.1
    have b92 : eI σ (A + 34) (3 * c) = nI k := b90.2
    have hl1 : ((m, k) :: rest).length = rest.length + 1 := rfl
    simp (disch := omega) only [bs_pI, cc_pI, cs_pI, sh_pI, gR_pI, eI_pI, eR_pI, eL_pI, bs_pR, cc_pR, cs_pR, sh_pR, gI_pR, eI_pR, eR_pR, eL_pR, bs_uI, cc_uI, cs_uI, sh_uI, gI_uI, gR_uI, eR_uI, eL_uI, bs_uR, cc_uR, cs_uR, sh_uR, gI_uR, gR_uR, eI_uR, eL_uR, bs_uL, cc_uL, cs_uL, sh_uL, gI_uL, gR_uL, eI_uL, eR_uL, gI_s, gI_d, gR_s, gR_d, eI_s, eI_d, eI_e, eR_s, eR_d, eR_e, eL_s, eL_d, bs_bump, cc_bump, cs_bump, sh_bump, gI_bump, gR_bump, eI_bump, eR_bump, eL_bump, l_0, l_1, l_2, l_3, l_4, l_5, l_6, l_7, l_8, l_9, l_10, l_11, l_12, l_13, l_14, l_15, l_16, l_17, l_18, l_19, l_20, l_21, l_22, l_23, l_24, l_25, l_26, l_27, l_28, l_29, l_30, l_31, l_32, l_33, l_34, l_35, l_36, l_37, l_38, l_39, l_40, l_41, l_42, l_43, l_44, l_45, l_46, l_47, l_48, l_49, l_50, l_51, l_52, l_53, l_54, l_55, l_56, l_57, l_58, l_59, l_60, l_61, l_62, l_63, l_64, l_65, l_66, l_67, l_68, l_69, l_70, l_71, l_72, l_73, l_74, l_75, l_76, l_77, l_78, l_79, l_80, l_81, l_82, l_83, l_84, l_85, l_86, l_87, l_88, l_89, l_90, l_91, l_92, l_93, l_94, l_95, l_96, l_97, l_98, l_99, l_100, l_101, l_102, l_103, l_104, l_105, l_106, l_107, l_108, l_109, l_110, l_111, l_112, l_113, l_114, l_115, l_116, l_117, l_118, l_119, l_120, l_121, l_122, l_123, l_124, l_125, l_126, l_127, l_128, l_129, l_130, l_256, l_512, l_676, l_704, l_999, l_1000, l_4096, l_17576, l_32768, l_65535, l_456975, l_456976, l_m1, l_m2, in_iff, eq_m1, m1_eq, m1_lt, m1_le, le_m1, lt_m1, eq_m2, m2_m1, m1_m2, add_m1, m1_add, sub_n, mul_n, add_n, bo_n0, bo_n1, ch_n, lt_n, le_n, eq_n, ix_n, i2c_n, rem_n, div_n, kI_i, kI_x, kV_v, kV_x, kR_r, kR_n, kR_x, kHI_i, kHI_0, kHI_1, kHV_v, kHV_0, kHV_1, va_s, va_n, exists_eq_left', exists_eq_left, forall_eq, forall_eq', and_true, true_and, and_self, Option.some.injEq, Prod.mk.injEq, if_tt, if_ff, reduceIte, reduceCtorEq, not_true_eq_false, not_false_eq_true, Nat.reduceAdd, Nat.reduceMul, Nat.reduceSub, Nat.reduceLT, Nat.reduceLeDiff, Nat.reduceEqDiff, false_implies, true_implies, implies_true, hz.1, z_732 hz, s_732 hz, z_740 hz, s_740 hz, z_733 hz, s_733 hz, z_741 hz, s_741 hz, z_734 hz, s_734 hz, z_739 hz, s_739 hz, b91, b92, b7, ha, hl1, Nat.add_sub_cancel]
    have f2 : MF noF (ouP A c) A σ (uI (uI (uI (uI (uI σ (A + 28) c (nI 0)) (A + 25) c (nI m)) (A + 26) c (nI k)) (A + 27) c (nI 1)) (A + 32) c (nI rest.length)) := (((f1.tr (MF.uI (by unfold ouP; omega))).tr (MF.uI (by unfold ouP; omega))).tr (MF.uI (by unfold ouP; omega))).tr (MF.uI (by unfold ouP; omega))
    refine ⟨by omega, by omega, by omega, by omega, by omega, by omega, by omega, ?_⟩
    refine pick_shift (σ0 := (uI (uI (uI (uI (uI σ (A + 28) c (nI 0)) (A + 25) c (nI m)) (A + 26) c (nI k)) (A + 27) c (nI 1)) (A + 32) c (nI rest.length))) (m := m) (k := k) hc b8 (fun σ' z' e' f' => ?_) rest.length 0 _ (by omega) (f2.z hz) (by simp only [bs_pI, cc_pI, cs_pI, sh_pI, gR_pI, eI_pI, eR_pI, eL_pI, bs_pR, cc_pR, cs_pR, sh_pR, gI_pR, eI_pR, eR_pR, eL_pR, bs_uI, cc_uI, cs_uI, sh_uI, gI_uI, gR_uI, eR_uI, eL_uI, bs_uR, cc_uR, cs_uR, sh_uR, gI_uR, gR_uR, eI_uR, eL_uR, bs_uL, cc_uL, cs_uL, sh_uL, gI_uL, gR_uL, eI_uL, eR_uL, gI_s, gI_d, gR_s, gR_d, eI_s, eI_d, eI_e, eR_s, eR_d, eR_e, eL_s, eL_d, bs_bump, cc_bump, cs_bump, sh_bump, gI_bump, gR_bump, eI_bump, eR_bump, eL_bump]) (fun j hj => absurd hj (Nat.not_lt_zero _)) (fun j _ hj => by simp (disch := omega) only [bs_pI, cc_pI, cs_pI, sh_pI, gR_pI, eI_pI, eR_pI, eL_pI, bs_pR, cc_pR, cs_pR, sh_pR, gI_pR, eI_pR, eR_pR, eL_pR, bs_uI, cc_uI, cs_uI, sh_uI, gI_uI, gR_uI, eR_uI, eL_uI, bs_uR, cc_uR, cs_uR, sh_uR, gI_uR, gR_uR, eI_uR, eL_uR, bs_uL, cc_uL, cs_uL, sh_uL, gI_uL, gR_uL, eI_uL, eR_uL, gI_s, gI_d, gR_s, gR_d, eI_s, eI_d, eI_e, eR_s, eR_d, eR_e, eL_s, eL_d, bs_bump, cc_bump, cs_bump, sh_bump, gI_bump, gR_bump, eI_bump, eR_bump, eL_bump]; exact b9 j hj) MF.rf
    have f3 : MF noF (ouP A c) A σ σ' := f2.tr (f'.mo (fun f q => q) (fun a j q => by unfold ouP; omega))
    refine hk σ' (hM.chan f3.ouc (mc.ou f3.ouo ⟨?_, ?_, fun _ => ⟨?_, ?_, ?_⟩, ?_, b5, fun i hi => ?_, ?_, by show rest.length ≤ 3; omega, e'⟩)) (f3.gI id) (f3.ouo.ouf)
    · rw [f'.eI (by omega)]; simp (disch := omega) only [bs_pI, cc_pI, cs_pI, sh_pI, gR_pI, eI_pI, eR_pI, eL_pI, bs_pR, cc_pR, cs_pR, sh_pR, gI_pR, eI_pR, eR_pR, eL_pR, bs_uI, cc_uI, cs_uI, sh_uI, gI_uI, gR_uI, eR_uI, eL_uI, bs_uR, cc_uR, cs_uR, sh_uR, gI_uR, gR_uR, eI_uR, eL_uR, bs_uL, cc_uL, cs_uL, sh_uL, gI_uL, gR_uL, eI_uL, eR_uL, gI_s, gI_d, gR_s, gR_d, eI_s, eI_d, eI_e, eR_s, eR_d, eR_e, eL_s, eL_d, bs_bump, cc_bump, cs_bump, sh_bump, gI_bump, gR_bump, eI_bump, eR_bump, eL_bump]; exact b1
    · rw [f'.eI (by omega)]; simp (disch := omega) only [bs_pI, cc_pI, cs_pI, sh_pI, gR_pI, eI_pI, eR_pI, eL_pI, bs_pR, cc_pR, cs_pR, sh_pR, gI_pR, eI_pR, eR_pR, eL_pR, bs_uI, cc_uI, cs_uI, sh_uI, gI_uI, gR_uI, eR_uI, eL_uI, bs_uR, cc_uR, cs_uR, sh_uR, gI_uR, gR_uR, eI_uR, eL_uR, bs_uL, cc_uL, cs_uL, sh_uL, gI_uL, gR_uL, eI_uL, eR_uL, gI_s, gI_d, gR_s, gR_d, eI_s, eI_d, eI_e, eR_s, eR_d, eR_e, eL_s, eL_d, bs_bump, cc_bump, cs_bump, sh_bump, gI_bump, gR_bump, eI_bump, eR_bump, eL_bump]; rfl
    · rw [f'.eI (by omega)]; simp (disch := omega) only [bs_pI, cc_pI, cs_pI, sh_pI, gR_pI, eI_pI, eR_pI, eL_pI, bs_pR, cc_pR, cs_pR, sh_pR, gI_pR, eI_pR, eR_pR, eL_pR, bs_uI, cc_uI, cs_uI, sh_uI, gI_uI, gR_uI, eR_uI, eL_uI, bs_uR, cc_uR, cs_uR, sh_uR, gI_uR, gR_uR, eI_uR, eL_uR, bs_uL, cc_uL, cs_uL, sh_uL, gI_uL, gR_uL, eI_uL, eR_uL, gI_s, gI_d, gR_s, gR_d, eI_s, eI_d, eI_e, eR_s, eR_d, eR_e, eL_s, eL_d, bs_bump, cc_bump, cs_bump, sh_bump, gI_bump, gR_bump, eI_bump, eR_bump, eL_bump]; rfl
    · rw [f'.eI (by omega)]; simp (disch := omega) only [bs_pI, cc_pI, cs_pI, sh_pI, gR_pI, eI_pI, eR_pI, eL_pI, bs_pR, cc_pR, cs_pR, sh_pR, gI_pR, eI_pR, eR_pR, eL_pR, bs_uI, cc_uI, cs_uI, sh_uI, gI_uI, gR_uI, eR_uI, eL_uI, bs_uR, cc_uR, cs_uR, sh_uR, gI_uR, gR_uR, eI_uR, eL_uR, bs_uL, cc_uL, cs_uL, sh_uL, gI_uL, gR_uL, eI_uL, eR_uL, gI_s, gI_d, gR_s, gR_d, eI_s, eI_d, eI_e, eR_s, eR_d, eR_e, eL_s, eL_d, bs_bump, cc_bump, cs_bump, sh_bump, gI_bump, gR_bump, eI_bump, eR_bump, eL_bump]; rfl
    · rw [f'.eI (by omega)]; simp (disch := omega) only [bs_pI, cc_pI, cs_pI, sh_pI, gR_pI, eI_pI, eR_pI, eL_pI, bs_pR, cc_pR, cs_pR, sh_pR, gI_pR, eI_pR, eR_pR, eL_pR, bs_uI, cc_uI, cs_uI, sh_uI, gI_uI, gR_uI, eR_uI, eL_uI, bs_uR, cc_uR, cs_uR, sh_uR, gI_uR, gR_uR, eI_uR, eL_uR, bs_uL, cc_uL, cs_uL, sh_uL, gI_uL, gR_uL, eI_uL, eR_uL, gI_s, gI_d, gR_s, gR_d, eI_s, eI_d, eI_e, eR_s, eR_d, eR_e, eL_s, eL_d, bs_bump, cc_bump, cs_bump, sh_bump, gI_bump, gR_bump, eI_bump, eR_bump, eL_bump]; rfl
    · rw [f'.eI (by omega)]; simp (disch := omega) only [bs_pI, cc_pI, cs_pI, sh_pI, gR_pI, eI_pI, eR_pI, eL_pI, bs_pR, cc_pR, cs_pR, sh_pR, gI_pR, eI_pR, eR_pR, eL_pR, bs_uI, cc_uI, cs_uI, sh_uI, gI_uI, gR_uI, eR_uI, eL_uI, bs_uR, cc_uR, cs_uR, sh_uR, gI_uR, gR_uR, eI_uR, eL_uR, bs_uL, cc_uL, cs_uL, sh_uL, gI_uL, gR_uL, eI_uL, eR_uL, gI_s, gI_d, gR_s, gR_d, eI_s, eI_d, eI_e, eR_s, eR_d, eR_e, eL_s, eL_d, bs_bump, cc_bump, cs_bump, sh_bump, gI_bump, gR_bump, eI_bump, eR_bump, eL_bump]; exact b4
    · rw [f'.eI (by omega), f'.eI (by omega)]; simp (disch := omega) only [bs_pI, cc_pI, cs_pI, sh_pI, gR_pI, eI_pI, eR_pI, eL_pI, bs_pR, cc_pR, cs_pR, sh_pR, gI_pR, eI_pR, eR_pR, eL_pR, bs_uI, cc_uI, cs_uI, sh_uI, gI_uI, gR_uI, eR_uI, eL_uI, bs_uR, cc_uR, cs_uR, sh_uR, gI_uR, gR_uR, eI_uR, eL_uR, bs_uL, cc_uL, cs_uL, sh_uL, gI_uL, gR_uL, eI_uL, eR_uL, gI_s, gI_d, gR_s, gR_d, eI_s, eI_d, eI_e, eR_s, eR_d, eR_e, eL_s, eL_d, bs_bump, cc_bump, cs_bump, sh_bump, gI_bump, gR_bump, eI_bump, eR_bump, eL_bump]; exact b6 i hi
    · rw [f'.eI (by omega)]; simp (disch := omega) only [bs_pI, cc_pI, cs_pI, sh_pI, gR_pI, eI_pI, eR_pI, eL_pI, bs_pR, cc_pR, cs_pR, sh_pR, gI_pR, eI_pR, eR_pR, eL_pR, bs_uI, cc_uI, cs_uI, sh_uI, gI_uI, gR_uI, eR_uI, eL_uI, bs_uR, cc_uR, cs_uR, sh_uR, gI_uR, gR_uR, eI_uR, eL_uR, bs_uL, cc_uL, cs_uL, sh_uL, gI_uL, gR_uL, eI_uL, eR_uL, gI_s, gI_d, gR_s, gR_d, eI_s, eI_d, eI_e, eR_s, eR_d, eR_e, eL_s, eL_d, bs_bump, cc_bump, cs_bump, sh_bump, gI_bump, gR_bump, eI_bump, eR_bump, eL_bump]; rfl
  | nil =>
    rw [ha] at hk
    rw [if_pos (show nI ([] : List (Nat × Nat)).length ≤ 0 by decide)]
    have loop : ∀ (n m : Nat), m + n = S.2.1.length + 1 → 1 ≤ m → PW (d + 1) M_Mod_pick 128 [.ref A, .int (nI c), .int (nI (fwF S.2.1 c (m - 1))), .int (nI m), uu] [] (uI σ (A + 28) c (nI 0)) K := by
      intro n
      induction n with
      | zero =>
        intro m hmn h1
        refine e_Mod_pick_128 A _ _ _ ⟨z1.1, ?_⟩
        have g19 : gI (uI σ (A + 28) c (nI 0)) 719 A = nI S.2.1.length := m1'
        rw [g19, if_pos ((nI_lt_iff (by omega) (by omega)).mpr (by omega)), show m - 1 = S.2.1.length by omega]
        obtain ⟨w1, w2⟩ := @fwF_le c S.2.1 S.2.1.length
        by_cases hw : fwF S.2.1 c S.2.1.length = 0
        · rw [hw, if_pos (by decide)]
          rw [if_pos hw] at hk
          have ho := f1.ouo
          refine hk _ ((hM.chan f1.ouc (s := S.1 c) ?_).ext (fun x hx => ?_) rfl) (f1.gI id) ho.ouf
          · refine mc.ou (s := S.1 c) (ln := sLn (S.1 c)) (sd := sSd (S.1 c)) (o := sOut (S.1 c)) (se := sSent (S.1 c)) (as := sAsk (S.1 c)) ho ⟨?_, ?_, fun q => absurd hsd q, ?_, b5, fun i hi => ?_, ?_, b8, fun i hi => ?_⟩
            · simp (disch := omega) only [bs_pI, cc_pI, cs_pI, sh_pI, gR_pI, eI_pI, eR_pI, eL_pI, bs_pR, cc_pR, cs_pR, sh_pR, gI_pR, eI_pR, eR_pR, eL_pR, bs_uI, cc_uI, cs_uI, sh_uI, gI_uI, gR_uI, eR_uI, eL_uI, bs_uR, cc_uR, cs_uR, sh_uR, gI_uR, gR_uR, eI_uR, eL_uR, bs_uL, cc_uL, cs_uL, sh_uL, gI_uL, gR_uL, eI_uL, eR_uL, gI_s, gI_d, gR_s, gR_d, eI_s, eI_d, eI_e, eR_s, eR_d, eR_e, eL_s, eL_d, bs_bump, cc_bump, cs_bump, sh_bump, gI_bump, gR_bump, eI_bump, eR_bump, eL_bump]; exact b1
            · simp (disch := omega) only [bs_pI, cc_pI, cs_pI, sh_pI, gR_pI, eI_pI, eR_pI, eL_pI, bs_pR, cc_pR, cs_pR, sh_pR, gI_pR, eI_pR, eR_pR, eL_pR, bs_uI, cc_uI, cs_uI, sh_uI, gI_uI, gR_uI, eR_uI, eL_uI, bs_uR, cc_uR, cs_uR, sh_uR, gI_uR, gR_uR, eI_uR, eL_uR, bs_uL, cc_uL, cs_uL, sh_uL, gI_uL, gR_uL, eI_uL, eR_uL, gI_s, gI_d, gR_s, gR_d, eI_s, eI_d, eI_e, eR_s, eR_d, eR_e, eL_s, eL_d, bs_bump, cc_bump, cs_bump, sh_bump, gI_bump, gR_bump, eI_bump, eR_bump, eL_bump]; exact b2
            · simp (disch := omega) only [bs_pI, cc_pI, cs_pI, sh_pI, gR_pI, eI_pI, eR_pI, eL_pI, bs_pR, cc_pR, cs_pR, sh_pR, gI_pR, eI_pR, eR_pR, eL_pR, bs_uI, cc_uI, cs_uI, sh_uI, gI_uI, gR_uI, eR_uI, eL_uI, bs_uR, cc_uR, cs_uR, sh_uR, gI_uR, gR_uR, eI_uR, eL_uR, bs_uL, cc_uL, cs_uL, sh_uL, gI_uL, gR_uL, eI_uL, eR_uL, gI_s, gI_d, gR_s, gR_d, eI_s, eI_d, eI_e, eR_s, eR_d, eR_e, eL_s, eL_d, bs_bump, cc_bump, cs_bump, sh_bump, gI_bump, gR_bump, eI_bump, eR_bump, eL_bump]; exact b4
            · simp (disch := omega) only [bs_pI, cc_pI, cs_pI, sh_pI, gR_pI, eI_pI, eR_pI, eL_pI, bs_pR, cc_pR, cs_pR, sh_pR, gI_pR, eI_pR, eR_pR, eL_pR, bs_uI, cc_uI, cs_uI, sh_uI, gI_uI, gR_uI, eR_uI, eL_uI, bs_uR, cc_uR, cs_uR, sh_uR, gI_uR, gR_uR, eI_uR, eL_uR, bs_uL, cc_uL, cs_uL, sh_uL, gI_uL, gR_uL, eI_uL, eR_uL, gI_s, gI_d, gR_s, gR_d, eI_s, eI_d, eI_e, eR_s, eR_d, eR_e, eL_s, eL_d, bs_bump, cc_bump, cs_bump, sh_bump, gI_bump, gR_bump, eI_bump, eR_bump, eL_bump]; exact b6 i hi
            · simp (disch := omega) only [bs_pI, cc_pI, cs_pI, sh_pI, gR_pI, eI_pI, eR_pI, eL_pI, bs_pR, cc_pR, cs_pR, sh_pR, gI_pR, eI_pR, eR_pR, eL_pR, bs_uI, cc_uI, cs_uI, sh_uI, gI_uI, gR_uI, eR_uI, eL_uI, bs_uR, cc_uR, cs_uR, sh_uR, gI_uR, gR_uR, eI_uR, eL_uR, bs_uL, cc_uL, cs_uL, sh_uL, gI_uL, gR_uL, eI_uL, eR_uL, gI_s, gI_d, gR_s, gR_d, eI_s, eI_d, eI_e, eR_s, eR_d, eR_e, eL_s, eL_d, bs_bump, cc_bump, cs_bump, sh_bump, gI_bump, gR_bump, eI_bump, eR_bump, eL_bump]; exact b7
            · simp (disch := omega) only [bs_pI, cc_pI, cs_pI, sh_pI, gR_pI, eI_pI, eR_pI, eL_pI, bs_pR, cc_pR, cs_pR, sh_pR, gI_pR, eI_pR, eR_pR, eL_pR, bs_uI, cc_uI, cs_uI, sh_uI, gI_uI, gR_uI, eR_uI, eL_uI, bs_uR, cc_uR, cs_uR, sh_uR, gI_uR, gR_uR, eI_uR, eL_uR, bs_uL, cc_uL, cs_uL, sh_uL, gI_uL, gR_uL, eI_uL, eR_uL, gI_s, gI_d, gR_s, gR_d, eI_s, eI_d, eI_e, eR_s, eR_d, eR_e, eL_s, eL_d, bs_bump, cc_bump, cs_bump, sh_bump, gI_bump, gR_bump, eI_bump, eR_bump, eL_bump]; exact b9 i hi
          · show S.1 x = if x = c then S.1 c else S.1 x
            by_cases hxc : x = c
            · rw [if_pos hxc, hxc]
            · rw [if_neg hxc]
        · rw [if_neg hw] at hk
          rw [if_neg (show ¬ nI (fwF S.2.1 c S.2.1.length) ≤ 0 from fun q => hw (by have := (nI_le_iff (b := 0) (by omega) (by decide)).mp q; omega))]
          generalize hfw : fwF S.2.1 c S.2.1.length = fw at *
          have hnn : nb (sLn (S.1 c)) ≤ 999 := hnb
          simp (disch := omega) only [bs_pI, cc_pI, cs_pI, sh_pI, gR_pI, eI_pI, eR_pI, eL_pI, bs_pR, cc_pR, cs_pR, sh_pR, gI_pR, eI_pR, eR_pR, eL_pR, bs_uI, cc_uI, cs_uI, sh_uI, gI_uI, gR_uI, eR_uI, eL_uI, bs_uR, cc_uR, cs_uR, sh_uR, gI_uR, gR_uR, eI_uR, eL_uR, bs_uL, cc_uL, cs_uL, sh_uL, gI_uL, gR_uL, eI_uL, eR_uL, gI_s, gI_d, gR_s, gR_d, eI_s, eI_d, eI_e, eR_s, eR_d, eR_e, eL_s, eL_d, bs_bump, cc_bump, cs_bump, sh_bump, gI_bump, gR_bump, eI_bump, eR_bump, eL_bump, l_0, l_1, l_2, l_3, l_4, l_5, l_6, l_7, l_8, l_9, l_10, l_11, l_12, l_13, l_14, l_15, l_16, l_17, l_18, l_19, l_20, l_21, l_22, l_23, l_24, l_25, l_26, l_27, l_28, l_29, l_30, l_31, l_32, l_33, l_34, l_35, l_36, l_37, l_38, l_39, l_40, l_41, l_42, l_43, l_44, l_45, l_46, l_47, l_48, l_49, l_50, l_51, l_52, l_53, l_54, l_55, l_56, l_57, l_58, l_59, l_60, l_61, l_62, l_63, l_64, l_65, l_66, l_67, l_68, l_69, l_70, l_71, l_72, l_73, l_74, l_75, l_76, l_77, l_78, l_79, l_80, l_81, l_82, l_83, l_84, l_85, l_86, l_87, l_88, l_89, l_90, l_91, l_92, l_93, l_94, l_95, l_96, l_97, l_98, l_99, l_100, l_101, l_102, l_103, l_104, l_105, l_106, l_107, l_108, l_109, l_110, l_111, l_112, l_113, l_114, l_115, l_116, l_117, l_118, l_119, l_120, l_121, l_122, l_123, l_124, l_125, l_126, l_127, l_128, l_129, l_130, l_256, l_512, l_676, l_704, l_999, l_1000, l_4096, l_17576, l_32768, l_65535, l_456975, l_456976, l_m1, l_m2, in_iff, eq_m1, m1_eq, m1_lt, m1_le, le_m1, lt_m1, eq_m2, m2_m1, m1_m2, add_m1, m1_add, sub_n, mul_n, add_n, bo_n0, bo_n1, ch_n, lt_n, le_n, eq_n, ix_n, i2c_n, rem_n, div_n, kI_i, kI_x, kV_v, kV_x, kR_r, kR_n, kR_x, kHI_i, kHI_0, kHI_1, kHV_v, kHV_0, kHV_1, va_s, va_n, exists_eq_left', exists_eq_left, forall_eq, forall_eq', and_true, true_and, and_self, Option.some.injEq, Prod.mk.injEq, if_tt, if_ff, reduceIte, reduceCtorEq, not_true_eq_false, not_false_eq_true, Nat.reduceAdd, Nat.reduceMul, Nat.reduceSub, Nat.reduceLT, Nat.reduceLeDiff, Nat.reduceEqDiff, false_implies, true_implies, implies_true, hz.1, z_732 hz, s_732 hz, z_733 hz, s_733 hz, z_731 hz, s_731 hz, z_734 hz, s_734 hz, b1]
          refine ⟨hc, hc, hc, hc, hc, ?_⟩
          refine c_after hnb ?_
          simp (disch := omega) only [bs_pI, cc_pI, cs_pI, sh_pI, gR_pI, eI_pI, eR_pI, eL_pI, bs_pR, cc_pR, cs_pR, sh_pR, gI_pR, eI_pR, eR_pR, eL_pR, bs_uI, cc_uI, cs_uI, sh_uI, gI_uI, gR_uI, eR_uI, eL_uI, bs_uR, cc_uR, cs_uR, sh_uR, gI_uR, gR_uR, eI_uR, eL_uR, bs_uL, cc_uL, cs_uL, sh_uL, gI_uL, gR_uL, eI_uL, eR_uL, gI_s, gI_d, gR_s, gR_d, eI_s, eI_d, eI_e, eR_s, eR_d, eR_e, eL_s, eL_d, bs_bump, cc_bump, cs_bump, sh_bump, gI_bump, gR_bump, eI_bump, eR_bump, eL_bump, l_0, l_1, l_2, l_3, l_4, l_5, l_6, l_7, l_8, l_9, l_10, l_11, l_12, l_13, l_14, l_15, l_16, l_17, l_18, l_19, l_20, l_21, l_22, l_23, l_24, l_25, l_26, l_27, l_28, l_29, l_30, l_31, l_32, l_33, l_34, l_35, l_36, l_37, l_38, l_39, l_40, l_41, l_42, l_43, l_44, l_45, l_46, l_47, l_48, l_49, l_50, l_51, l_52, l_53, l_54, l_55, l_56, l_57, l_58, l_59, l_60, l_61, l_62, l_63, l_64, l_65, l_66, l_67, l_68, l_69, l_70, l_71, l_72, l_73, l_74, l_75, l_76, l_77, l_78, l_79, l_80, l_81, l_82, l_83, l_84, l_85, l_86, l_87, l_88, l_89, l_90, l_91, l_92, l_93, l_94, l_95, l_96, l_97, l_98, l_99, l_100, l_101, l_102, l_103, l_104, l_105, l_106, l_107, l_108, l_109, l_110, l_111, l_112, l_113, l_114, l_115, l_116, l_117, l_118, l_119, l_120, l_121, l_122, l_123, l_124, l_125, l_126, l_127, l_128, l_129, l_130, l_256, l_512, l_676, l_704, l_999, l_1000, l_4096, l_17576, l_32768, l_65535, l_456975, l_456976, l_m1, l_m2, in_iff, eq_m1, m1_eq, m1_lt, m1_le, le_m1, lt_m1, eq_m2, m2_m1, m1_m2, add_m1, m1_add, sub_n, mul_n, add_n, bo_n0, bo_n1, ch_n, lt_n, le_n, eq_n, ix_n, i2c_n, rem_n, div_n, kI_i, kI_x, kV_v, kV_x, kR_r, kR_n, kR_x, kHI_i, kHI_0, kHI_1, kHV_v, kHV_0, kHV_1, va_s, va_n, exists_eq_left', exists_eq_left, forall_eq, forall_eq', and_true, true_and, and_self, Option.some.injEq, Prod.mk.injEq, if_tt, if_ff, reduceIte, reduceCtorEq, not_true_eq_false, not_false_eq_true, Nat.reduceAdd, Nat.reduceMul, Nat.reduceSub, Nat.reduceLT, Nat.reduceLeDiff, Nat.reduceEqDiff, false_implies, true_implies, implies_true, hz.1, s_731 hz, z_725 hz, s_725 hz]
          refine ⟨hc, by omega, ?_⟩
          have f2 : MF noF (ofP A c) A σ (uI (uI (uI (uI (uI (uI σ (A + 28) c (nI 0)) (A + 25) c (nI fw)) (A + 26) c (nI (nb (sLn (S.1 c))))) (A + 27) c (nI 0)) (A + 24) c (nI (nb (nb (sLn (S.1 c)))))) (A + 19) (8 * fw + c) (nI 2)) := ((((f1.ouo.tr (MF.uI (by unfold ofP ouP; omega))).tr (MF.uI (by unfold ofP ouP; omega))).tr (MF.uI (by unfold ofP ouP; omega))).tr (MF.uI (by unfold ofP ouP; omega))).tr (MF.uI (by unfold ofP ouP; omega))
          refine hk _ (hM.both f2 (mc.ou f2 ⟨?_, ?_, fun _ => ⟨?_, ?_, ?_⟩, ?_, b5, fun i hi => ?_, ?_, Nat.zero_le _, fun i hi => absurd hi (Nat.not_lt_zero _)⟩) (MM.fate hM.2.2.2.1 hc (by omega) w1 (f2.gI id) (fun k j k1 k2 hkj => ?_) ?_ (fun q => absurd q (by decide)))) (f2.gI id) f2.ouf
          · simp (disch := omega) only [bs_pI, cc_pI, cs_pI, sh_pI, gR_pI, eI_pI, eR_pI, eL_pI, bs_pR, cc_pR, cs_pR, sh_pR, gI_pR, eI_pR, eR_pR, eL_pR, bs_uI, cc_uI, cs_uI, sh_uI, gI_uI, gR_uI, eR_uI, eL_uI, bs_uR, cc_uR, cs_uR, sh_uR, gI_uR, gR_uR, eI_uR, eL_uR, bs_uL, cc_uL, cs_uL, sh_uL, gI_uL, gR_uL, eI_uL, eR_uL, gI_s, gI_d, gR_s, gR_d, eI_s, eI_d, eI_e, eR_s, eR_d, eR_e, eL_s, eL_d, bs_bump, cc_bump, cs_bump, sh_bump, gI_bump, gR_bump, eI_bump, eR_bump, eL_bump]; rfl
          · simp (disch := omega) only [bs_pI, cc_pI, cs_pI, sh_pI, gR_pI, eI_pI, eR_pI, eL_pI, bs_pR, cc_pR, cs_pR, sh_pR, gI_pR, eI_pR, eR_pR, eL_pR, bs_uI, cc_uI, cs_uI, sh_uI, gI_uI, gR_uI, eR_uI, eL_uI, bs_uR, cc_uR, cs_uR, sh_uR, gI_uR, gR_uR, eI_uR, eL_uR, bs_uL, cc_uL, cs_uL, sh_uL, gI_uL, gR_uL, eI_uL, eR_uL, gI_s, gI_d, gR_s, gR_d, eI_s, eI_d, eI_e, eR_s, eR_d, eR_e, eL_s, eL_d, bs_bump, cc_bump, cs_bump, sh_bump, gI_bump, gR_bump, eI_bump, eR_bump, eL_bump]; rfl
          · simp (disch := omega) only [bs_pI, cc_pI, cs_pI, sh_pI, gR_pI, eI_pI, eR_pI, eL_pI, bs_pR, cc_pR, cs_pR, sh_pR, gI_pR, eI_pR, eR_pR, eL_pR, bs_uI, cc_uI, cs_uI, sh_uI, gI_uI, gR_uI, eR_uI, eL_uI, bs_uR, cc_uR, cs_uR, sh_uR, gI_uR, gR_uR, eI_uR, eL_uR, bs_uL, cc_uL, cs_uL, sh_uL, gI_uL, gR_uL, eI_uL, eR_uL, gI_s, gI_d, gR_s, gR_d, eI_s, eI_d, eI_e, eR_s, eR_d, eR_e, eL_s, eL_d, bs_bump, cc_bump, cs_bump, sh_bump, gI_bump, gR_bump, eI_bump, eR_bump, eL_bump]; rfl
          · simp (disch := omega) only [bs_pI, cc_pI, cs_pI, sh_pI, gR_pI, eI_pI, eR_pI, eL_pI, bs_pR, cc_pR, cs_pR, sh_pR, gI_pR, eI_pR, eR_pR, eL_pR, bs_uI, cc_uI, cs_uI, sh_uI, gI_uI, gR_uI, eR_uI, eL_uI, bs_uR, cc_uR, cs_uR, sh_uR, gI_uR, gR_uR, eI_uR, eL_uR, bs_uL, cc_uL, cs_uL, sh_uL, gI_uL, gR_uL, eI_uL, eR_uL, gI_s, gI_d, gR_s, gR_d, eI_s, eI_d, eI_e, eR_s, eR_d, eR_e, eL_s, eL_d, bs_bump, cc_bump, cs_bump, sh_bump, gI_bump, gR_bump, eI_bump, eR_bump, eL_bump]; rfl
          · simp (disch := omega) only [bs_pI, cc_pI, cs_pI, sh_pI, gR_pI, eI_pI, eR_pI, eL_pI, bs_pR, cc_pR, cs_pR, sh_pR, gI_pR, eI_pR, eR_pR, eL_pR, bs_uI, cc_uI, cs_uI, sh_uI, gI_uI, gR_uI, eR_uI, eL_uI, bs_uR, cc_uR, cs_uR, sh_uR, gI_uR, gR_uR, eI_uR, eL_uR, bs_uL, cc_uL, cs_uL, sh_uL, gI_uL, gR_uL, eI_uL, eR_uL, gI_s, gI_d, gR_s, gR_d, eI_s, eI_d, eI_e, eR_s, eR_d, eR_e, eL_s, eL_d, bs_bump, cc_bump, cs_bump, sh_bump, gI_bump, gR_bump, eI_bump, eR_bump, eL_bump]; rfl
          · simp (disch := omega) only [bs_pI, cc_pI, cs_pI, sh_pI, gR_pI, eI_pI, eR_pI, eL_pI, bs_pR, cc_pR, cs_pR, sh_pR, gI_pR, eI_pR, eR_pR, eL_pR, bs_uI, cc_uI, cs_uI, sh_uI, gI_uI, gR_uI, eR_uI, eL_uI, bs_uR, cc_uR, cs_uR, sh_uR, gI_uR, gR_uR, eI_uR, eL_uR, bs_uL, cc_uL, cs_uL, sh_uL, gI_uL, gR_uL, eI_uL, eR_uL, gI_s, gI_d, gR_s, gR_d, eI_s, eI_d, eI_e, eR_s, eR_d, eR_e, eL_s, eL_d, bs_bump, cc_bump, cs_bump, sh_bump, gI_bump, gR_bump, eI_bump, eR_bump, eL_bump]; exact b4
          · simp (disch := omega) only [bs_pI, cc_pI, cs_pI, sh_pI, gR_pI, eI_pI, eR_pI, eL_pI, bs_pR, cc_pR, cs_pR, sh_pR, gI_pR, eI_pR, eR_pR, eL_pR, bs_uI, cc_uI, cs_uI, sh_uI, gI_uI, gR_uI, eR_uI, eL_uI, bs_uR, cc_uR, cs_uR, sh_uR, gI_uR, gR_uR, eI_uR, eL_uR, bs_uL, cc_uL, cs_uL, sh_uL, gI_uL, gR_uL, eI_uL, eR_uL, gI_s, gI_d, gR_s, gR_d, eI_s, eI_d, eI_e, eR_s, eR_d, eR_e, eL_s, eL_d, bs_bump, cc_bump, cs_bump, sh_bump, gI_bump, gR_bump, eI_bump, eR_bump, eL_bump]; exact b6 i hi
          · simp (disch := omega) only [bs_pI, cc_pI, cs_pI, sh_pI, gR_pI, eI_pI, eR_pI, eL_pI, bs_pR, cc_pR, cs_pR, sh_pR, gI_pR, eI_pR, eR_pR, eL_pR, bs_uI, cc_uI, cs_uI, sh_uI, gI_uI, gR_uI, eR_uI, eL_uI, bs_uR, cc_uR, cs_uR, sh_uR, gI_uR, gR_uR, eI_uR, eL_uR, bs_uL, cc_uL, cs_uL, sh_uL, gI_uL, gR_uL, eI_uL, eR_uL, gI_s, gI_d, gR_s, gR_d, eI_s, eI_d, eI_e, eR_s, eR_d, eR_e, eL_s, eL_d, bs_bump, cc_bump, cs_bump, sh_bump, gI_bump, gR_bump, eI_bump, eR_bump, eL_bump]; rw [b7, ha]; rfl
          · simp (disch := omega) only [bs_pI, cc_pI, cs_pI, sh_pI, gR_pI, eI_pI, eR_pI, eL_pI, bs_pR, cc_pR, cs_pR, sh_pR, gI_pR, eI_pR, eR_pR, eL_pR, bs_uI, cc_uI, cs_uI, sh_uI, gI_uI, gR_uI, eR_uI, eL_uI, bs_uR, cc_uR, cs_uR, sh_uR, gI_uR, gR_uR, eI_uR, eL_uR, bs_uL, cc_uL, cs_uL, sh_uL, gI_uL, gR_uL, eI_uL, eR_uL, gI_s, gI_d, gR_s, gR_d, eI_s, eI_d, eI_e, eR_s, eR_d, eR_e, eL_s, eL_d, bs_bump, cc_bump, cs_bump, sh_bump, gI_bump, gR_bump, eI_bump, eR_bump, eL_bump]
          · simp (disch := omega) only [bs_pI, cc_pI, cs_pI, sh_pI, gR_pI, eI_pI, eR_pI, eL_pI, bs_pR, cc_pR, cs_pR, sh_pR, gI_pR, eI_pR, eR_pR, eL_pR, bs_uI, cc_uI, cs_uI, sh_uI, gI_uI, gR_uI, eR_uI, eL_uI, bs_uR, cc_uR, cs_uR, sh_uR, gI_uR, gR_uR, eI_uR, eL_uR, bs_uL, cc_uL, cs_uL, sh_uL, gI_uL, gR_uL, eI_uL, eR_uL, gI_s, gI_d, gR_s, gR_d, eI_s, eI_d, eI_e, eR_s, eR_d, eR_e, eL_s, eL_d, bs_bump, cc_bump, cs_bump, sh_bump, gI_bump, gR_bump, eI_bump, eR_bump, eL_bump]; rfl
      | succ n ih =>
        intro m hmn h1
        have nx : PW (d + 1) M_Mod_pick 187 [.ref A, .int (nI c), uu, .int (nI m), uu] [.int (nI (fwF S.2.1 c m))] (uI σ (A + 28) c (nI 0)) K := by
          refine e_Mod_pick_187 A _ _ _ ?_
          rw [nI_1]
          have := ih (m + 1) (by omega) (by omega)
          rw [show m + 1 - 1 = m by omega] at this
          exact this
        obtain ⟨w1, w2⟩ := @fwF_le c S.2.1 (m - 1)
        have hfm : fwF S.2.1 c m = if (msg S.2.1 m).2.2.2 c = 1 ∧ (fwF S.2.1 c (m - 1) = 0 ∨ (msg S.2.1 m).1 < (msg S.2.1 (fwF S.2.1 c (m - 1))).1) then m else fwF S.2.1 c (m - 1) := by
          obtain ⟨m', rfl⟩ : ∃ m', m = m' + 1 := ⟨m - 1, by omega⟩
          rw [fwF]; rfl
        obtain ⟨a1, a2, a3, a4, a5, a6, a7, a8⟩ := m3' m h1 (by omega)
        have hp1 := (hB m h1 (by omega)).1
        refine e_Mod_pick_128 A _ _ _ ⟨z1.1, ?_⟩
        have g19 : gI (uI σ (A + 28) c (nI 0)) 719 A = nI S.2.1.length := m1'
        rw [g19, if_neg (fun q => by have := (nI_lt_iff (by omega) (by omega)).mp q; omega)]
        simp (disch := omega) only [bs_pI, cc_pI, cs_pI, sh_pI, gR_pI, eI_pI, eR_pI, eL_pI, bs_pR, cc_pR, cs_pR, sh_pR, gI_pR, eI_pR, eR_pR, eL_pR, bs_uI, cc_uI, cs_uI, sh_uI, gI_uI, gR_uI, eR_uI, eL_uI, bs_uR, cc_uR, cs_uR, sh_uR, gI_uR, gR_uR, eI_uR, eL_uR, bs_uL, cc_uL, cs_uL, sh_uL, gI_uL, gR_uL, eI_uL, eR_uL, gI_s, gI_d, gR_s, gR_d, eI_s, eI_d, eI_e, eR_s, eR_d, eR_e, eL_s, eL_d, bs_bump, cc_bump, cs_bump, sh_bump, gI_bump, gR_bump, eI_bump, eR_bump, eL_bump, l_0, l_1, l_2, l_3, l_4, l_5, l_6, l_7, l_8, l_9, l_10, l_11, l_12, l_13, l_14, l_15, l_16, l_17, l_18, l_19, l_20, l_21, l_22, l_23, l_24, l_25, l_26, l_27, l_28, l_29, l_30, l_31, l_32, l_33, l_34, l_35, l_36, l_37, l_38, l_39, l_40, l_41, l_42, l_43, l_44, l_45, l_46, l_47, l_48, l_49, l_50, l_51, l_52, l_53, l_54, l_55, l_56, l_57, l_58, l_59, l_60, l_61, l_62, l_63, l_64, l_65, l_66, l_67, l_68, l_69, l_70, l_71, l_72, l_73, l_74, l_75, l_76, l_77, l_78, l_79, l_80, l_81, l_82, l_83, l_84, l_85, l_86, l_87, l_88, l_89, l_90, l_91, l_92, l_93, l_94, l_95, l_96, l_97, l_98, l_99, l_100, l_101, l_102, l_103, l_104, l_105, l_106, l_107, l_108, l_109, l_110, l_111, l_112, l_113, l_114, l_115, l_116, l_117, l_118, l_119, l_120, l_121, l_122, l_123, l_124, l_125, l_126, l_127, l_128, l_129, l_130, l_256, l_512, l_676, l_704, l_999, l_1000, l_4096, l_17576, l_32768, l_65535, l_456975, l_456976, l_m1, l_m2, in_iff, eq_m1, m1_eq, m1_lt, m1_le, le_m1, lt_m1, eq_m2, m2_m1, m1_m2, add_m1, m1_add, sub_n, mul_n, add_n, bo_n0, bo_n1, ch_n, lt_n, le_n, eq_n, ix_n, i2c_n, rem_n, div_n, kI_i, kI_x, kV_v, kV_x, kR_r, kR_n, kR_x, kHI_i, kHI_0, kHI_1, kHV_v, kHV_0, kHV_1, va_s, va_n, exists_eq_left', exists_eq_left, forall_eq, forall_eq', and_true, true_and, and_self, Option.some.injEq, Prod.mk.injEq, if_tt, if_ff, reduceIte, reduceCtorEq, not_true_eq_false, not_false_eq_true, Nat.reduceAdd, Nat.reduceMul, Nat.reduceSub, Nat.reduceLT, Nat.reduceLeDiff, Nat.reduceEqDiff, false_implies, true_implies, implies_true, z_725 hz, s_725 hz]
        rw [(a8 c hc).1]
        simp (disch := omega) only [eq_n]
        refine ⟨by omega, ?_⟩
        by_cases hF : (msg S.2.1 m).2.2.2 c = 1
        · rw [if_pos (by omega)]
          refine e_Mod_pick_156 A _ _ _ _ ?_
          rw [if_neg (by decide)]
          by_cases hw : fwF S.2.1 c (m - 1) = 0
          · rw [if_pos (show nI (fwF S.2.1 c (m - 1)) = 0 by rw [hw]; decide)]
            rw [if_pos ⟨hF, Or.inl hw⟩] at hfm
            rw [hfm] at nx
            exact e_Mod_pick_182 A _ _ nx
          · rw [if_neg (show ¬ nI (fwF S.2.1 c (m - 1)) = 0 from fun q => hw ((nI_eq_iff (b := 0) (by omega) (by decide)).mp q))]
            have hp2 := (hB (fwF S.2.1 c (m - 1)) (by omega) (by omega)).1
            have a1' := (m3' (fwF S.2.1 c (m - 1)) (by omega) (by omega)).1
            simp (disch := omega) only [bs_pI, cc_pI, cs_pI, sh_pI, gR_pI, eI_pI, eR_pI, eL_pI, bs_pR, cc_pR, cs_pR, sh_pR, gI_pR, eI_pR, eR_pR, eL_pR, bs_uI, cc_uI, cs_uI, sh_uI, gI_uI, gR_uI, eR_uI, eL_uI, bs_uR, cc_uR, cs_uR, sh_uR, gI_uR, gR_uR, eI_uR, eL_uR, bs_uL, cc_uL, cs_uL, sh_uL, gI_uL, gR_uL, eI_uL, eR_uL, gI_s, gI_d, gR_s, gR_d, eI_s, eI_d, eI_e, eR_s, eR_d, eR_e, eL_s, eL_d, bs_bump, cc_bump, cs_bump, sh_bump, gI_bump, gR_bump, eI_bump, eR_bump, eL_bump, l_0, l_1, l_2, l_3, l_4, l_5, l_6, l_7, l_8, l_9, l_10, l_11, l_12, l_13, l_14, l_15, l_16, l_17, l_18, l_19, l_20, l_21, l_22, l_23, l_24, l_25, l_26, l_27, l_28, l_29, l_30, l_31, l_32, l_33, l_34, l_35, l_36, l_37, l_38, l_39, l_40, l_41, l_42, l_43, l_44, l_45, l_46, l_47, l_48, l_49, l_50, l_51, l_52, l_53, l_54, l_55, l_56, l_57, l_58, l_59, l_60, l_61, l_62, l_63, l_64, l_65, l_66, l_67, l_68, l_69, l_70, l_71, l_72, l_73, l_74, l_75, l_76, l_77, l_78, l_79, l_80, l_81, l_82, l_83, l_84, l_85, l_86, l_87, l_88, l_89, l_90, l_91, l_92, l_93, l_94, l_95, l_96, l_97, l_98, l_99, l_100, l_101, l_102, l_103, l_104, l_105, l_106, l_107, l_108, l_109, l_110, l_111, l_112, l_113, l_114, l_115, l_116, l_117, l_118, l_119, l_120, l_121, l_122, l_123, l_124, l_125, l_126, l_127, l_128, l_129, l_130, l_256, l_512, l_676, l_704, l_999, l_1000, l_4096, l_17576, l_32768, l_65535, l_456975, l_456976, l_m1, l_m2, in_iff, eq_m1, m1_eq, m1_lt, m1_le, le_m1, lt_m1, eq_m2, m2_m1, m1_m2, add_m1, m1_add, sub_n, mul_n, add_n, bo_n0, bo_n1, ch_n, lt_n, le_n, eq_n, ix_n, i2c_n, rem_n, div_n, kI_i, kI_x, kV_v, kV_x, kR_r, kR_n, kR_x, kHI_i, kHI_0, kHI_1, kHV_v, kHV_0, kHV_1, va_s, va_n, exists_eq_left', exists_eq_left, forall_eq, forall_eq', and_true, true_and, and_self, Option.some.injEq, Prod.mk.injEq, if_tt, if_ff, reduceIte, reduceCtorEq, not_true_eq_false, not_false_eq_true, Nat.reduceAdd, Nat.reduceMul, Nat.reduceSub, Nat.reduceLT, Nat.reduceLeDiff, Nat.reduceEqDiff, false_implies, true_implies, implies_true, hz.1, z_720 hz, s_720 hz, a1, a1']
            refine ⟨by omega, by omega, ?_⟩
            by_cases hpp : (msg S.2.1 (fwF S.2.1 c (m - 1))).1 ≤ (msg S.2.1 m).1
            · rw [if_pos hpp]
              rw [if_neg (fun q => by rcases q.2 with q2 | q2; exact hw q2; omega)] at hfm
              rw [hfm] at nx
              exact e_Mod_pick_186 A _ _ _ nx
            · rw [if_neg hpp]
              rw [if_pos ⟨hF, Or.inr (by omega)⟩] at hfm
              rw [hfm] at nx
              exact e_Mod_pick_182 A _ _ nx
        · rw [if_neg (by omega)]
          refine e_Mod_pick_156 A _ _ _ _ ?_
          rw [if_pos (by decide)]
          rw [if_neg (fun q => hF q.1)] at hfm
          rw [hfm] at nx
          exact e_Mod_pick_186 A _ _ _ nx
    exact loop S.2.1.length 1 (by omega) (by omega)
end ModD
