/-! ===== the reference: sign, open, cut ===== -/
def inP (A c a j : Nat) : Prop := (a = A + 2 ∧ j = c) ∨ (a = A + 3 ∧ j / 4096 = c) ∨ (a = A + 4 ∧ j = c) ∨ scP A a j
section ModA
variable {d : Nat} {σ : PH} {K : PO → PH → Prop} {A : Nat} {S : SP} {c : Nat} {s : CS}
theorem MC.ink {σ' : PH} {F : Nat → Prop} {g : List Nat} {fg : Bool} (h : MC σ A c s) (hf : MF F (inP A c) A σ σ') (h2 : eI σ' (A + 2) c = nI g.length) (hg : g.length < 4000) (h3 : ∀ i, i < g.length → eI σ' (A + 3) (4096 * c + i) = nI (g.getD i 0)) (h4 : eI σ' (A + 4) c = nI fg.toNat) : MC σ' A c (wIn s g fg) := by
  obtain ⟨a1, a2, a3, a4, a5, a6, a7, a8, a9, a10, a11, a12, a13, a14, a15, a16, a17, a18⟩ := h
  refine ⟨by rw [hf.eI (by unfold inP scP; omega)]; exact a1, h2, hg, h3, h4, by rw [hf.eI (by unfold inP scP; omega)]; exact a6, by rw [hf.eI (by unfold inP scP; omega)]; exact a7, a8, fun i hi => by rw [hf.eI (by unfold inP scP; omega)]; exact a9 i hi, by rw [hf.eI (by unfold inP scP; omega)]; exact a10, by rw [hf.eI (by unfold inP scP; omega)]; exact a11, fun q => ?_, by rw [hf.eI (by unfold inP scP; omega)]; exact a13, a14, fun i hi => ?_, by rw [hf.eI (by unfold inP scP; omega)]; exact a16, a17, fun i hi => ?_⟩
  · rw [hf.eI (a := A + 26) (by unfold inP scP; omega), hf.eI (a := A + 27) (by unfold inP scP; omega), hf.eI (a := A + 28) (by unfold inP scP; omega)]; exact a12 q
  · rw [hf.eI (a := A + 30) (by unfold inP scP; omega), hf.eI (a := A + 31) (by unfold inP scP; omega)]; exact a15 i hi
  · rw [hf.eI (a := A + 33) (by unfold inP scP; omega), hf.eI (a := A + 34) (by unfold inP scP; omega)]; exact a18 i hi
theorem MF.inc {σ' : PH} (h : MF scF (inP A c) A σ σ') : MF scF (chF A c) A σ σ' := h.mo (fun f q => q) (fun a j q => by
  unfold inP at q
  rcases q with ⟨q1, q2⟩ | ⟨q1, q2⟩ | ⟨q1, q2⟩ | q
  · exact Or.inr ⟨2, q1, by unfold own; omega⟩
  · exact Or.inr ⟨3, q1, by unfold own; omega⟩
  · exact Or.inr ⟨4, q1, by unfold own; omega⟩
  · exact Or.inl q)
theorem MF.inf {σ' : PH} (hc : c < 8) (h : MF scF (inP A c) A σ σ') : Fr (gP A) σ σ' := h.fr (fun a j q => by unfold inP scP at q; unfold gP; omega)
theorem uC_self : (uC S c s).1 c = s := if_pos rfl
theorem uC_uC {s' : CS} : uC (uC S c s) c s' = uC S c s' := by
  unfold uC
  congr 1
  funext x
  by_cases h : x = c
  · rw [if_pos h, if_pos h]
  · rw [if_neg h, if_neg h]
    exact if_neg h
theorem newM_cgR {S' : SP} {xs : List Nat} (h1 : ∀ y, sOp (S'.1 y) = sOp (S.1 y)) (h2 : S'.2 = S.2) : newM S' xs = newM S xs := by
  have hr : ∀ ks x, Rd S' ks x = Rd S ks x := by
    intro ks x
    unfold Rd chOf
    rw [h2]
    simp only [h1]
  unfold newM
  simp only [hr]
theorem uC_op {f : CS → CS} (hf : ∀ t, sOp (f t) = sOp t) (y : Nat) : sOp ((uC S c (f (S.1 c))).1 y) = sOp (S.1 y) := by
  show sOp (if y = c then f (S.1 c) else S.1 y) = _
  by_cases h : y = c
  · rw [if_pos h, hf, h]
  · rw [if_neg h]
theorem hand_in {xs : List Nat} {lg : Bool} : hand (uC S c (wIn (S.1 c) [] false)) c xs lg = (uC (hand S c xs lg).1 c (wIn ((hand S c xs lg).1.1 c) [] false), (hand S c xs lg).2) := by
  have e1 : (uC S c (wIn (S.1 c) [] false)).1 c = wIn (S.1 c) [] false := uC_self
  have w : ∀ la mi, uC (uC S c (wIn (S.1 c) [] false)) c (wNu (wIn (S.1 c) [] false) la mi) = uC (uC S c (wNu (S.1 c) la mi)) c (wIn (wNu (S.1 c) la mi) [] false) := fun la mi => by rw [uC_uC, uC_uC]; rfl
  unfold hand
  rw [e1]
  have a1 : sLa (wIn (S.1 c) [] false) = sLa (S.1 c) := rfl
  have a2 : sMi (wIn (S.1 c) [] false) = sMi (S.1 c) := rfl
  rw [a1, a2]
  by_cases h1 : flt xs lg = 1
  · rw [if_pos h1, if_pos h1]; rfl
  · rw [if_neg h1, if_neg h1]
    by_cases h2 : due (sLa (S.1 c)) (sMi (S.1 c)) (hNum xs) = false ∧ ¬ plc (sMi (S.1 c)) (hNum xs) < (sMi (S.1 c)).length
    · rw [if_pos h2, if_pos h2]
    · rw [if_neg h2, if_neg h2]
      by_cases h3 : S.2.1.length = 10
      · have h3' : (uC S c (wIn (S.1 c) [] false)).2.1.length = 10 := h3
        rw [if_pos h3, if_pos h3']
      · have h3' : ¬ (uC S c (wIn (S.1 c) [] false)).2.1.length = 10 := h3
        rw [if_neg h3, if_neg h3', w]
        generalize hs2 : wNu (S.1 c) (tkL (sLa (S.1 c)) (sMi (S.1 c)) (hNum xs)) (tkM (sLa (S.1 c)) (sMi (S.1 c)) (hNum xs)) = s2
        have hop : sOp s2 = sOp (S.1 c) := by rw [← hs2]; rfl
        have e2 : (uC S c s2).1 c = s2 := uC_self
        have cas : ∀ (S1 : SP) r, addC (uC S1 c (wIn (S1.1 c) [] false)) r = uC (addC S1 r) c (wIn ((addC S1 r).1 c) [] false) := fun S1 r => rfl
        by_cases h4 : flt xs lg ≠ 0
        · rw [if_pos h4, if_pos h4]
          refine Prod.ext ?_ rfl
          show addC (uC (uC S c s2) c (wIn s2 [] false)) _ = uC (addC (uC S c s2) _) c (wIn ((addC (uC S c s2) _).1 c) [] false)
          rw [← cas, e2]
        · rw [if_neg h4, if_neg h4]
          have mes : addM (uC (uC S c s2) c (wIn s2 [] false)) xs = uC (addM (uC S c s2) xs) c (wIn ((addM (uC S c s2) xs).1 c) [] false) := by
            unfold addM
            rw [newM_cgR (S' := uC (uC S c s2) c (wIn s2 [] false)) (S := uC S c s2) (fun y => by
              have := uC_op (S := uC S c s2) (c := c) (f := fun t => wIn t [] false) (fun _ => rfl) y
              rw [e2] at this
              exact this) rfl]
            have e3 : (uM (uC S c s2) ((uC S c s2).2.1 ++ [newM (uC S c s2) xs])).1 c = s2 := e2
            rw [e3]
            rfl
          by_cases hL : Lost S (hInd xs)
          · have hL' : Lost (uC S c (wIn (S.1 c) [] false)) (hInd xs) := hL
            rw [if_pos hL, if_pos hL', mes, cas]
          · have hL' : ¬ Lost (uC S c (wIn (S.1 c) [] false)) (hInd xs) := hL
            rw [if_neg hL, if_neg hL', mes]
theorem figL_10 : ∀ s, s < 21 → figL.getD s 0 ≠ 10 ∧ figL.getD s 0 ≠ 0 := by decide
theorem InvC.wIn {T : Nat} {M : List MS} {g : List Nat} {fg : Bool} (h : InvC M c T s) (h1 : g.length ≤ T) (h2 : ∀ x ∈ g, x < 128) : InvC M c T (wIn s g fg) := by
  obtain ⟨j1, j2, j3, j4, j5, j6, j7, j8, j9, j10, j11, j12, j13⟩ := h
  exact ⟨h1, h2, j3, j4, j5, j6, j7, j8, j9, j10, j11, j12, j13⟩
theorem getD_takeN {xs : List Nat} {n k : Nat} (h : k < n) : (xs.take n).getD k 0 = xs.getD k 0 := by
  rw [List.getD_eq_getElem?_getD, List.getD_eq_getElem?_getD, List.getElem?_take_of_lt h]
theorem sign_text {g : List Nat} {T : Nat} {σ0 : PH} {y : Int32} (hM : MR σ0 A S) (hI : Inv S T) (hT : T ≤ 600) (hB : Bd S) (hc : c < 8) (hg : g = sG (S.1 c)) (h4 : lnN g = 4) (hk : Aft σ0 A (uC (hand S c (inkT g) (decide (60 < lnS g))).1 c (wIn ((hand S c (inkT g) (decide (60 < lnS g))).1.1 c) [] false)) 0 (K (.inl (some (.int (nI (hand S c (inkT g) (decide (60 < lnS g))).2)))))) : ∀ (n k : Nat) (σ : PH), k + n = (inkT g).length → MZ σ A → gI σ 704 A = nI 0 → gI σ 744 A = nI (decide (60 < lnS g)).toNat → gI σ 742 A = nI (inkT g).length → (∀ i, i < g.length → eI σ (A + 3) (4096 * c + i) = nI (g.getD i 0)) → (∀ i, i < k → eI σ (A + 35) i = nI ((inkT g).getD i 0)) → MF scF (inP A c) A σ0 σ → PW (d + 5) M_Mod_sign 209 [.ref A, .int (nI c), uu, uu, .int (nI k)] [] σ K := by
  have hI0 := hI
  obtain ⟨I1, I2, I3, I4, I5⟩ := hI
  have IC := I4 c hc
  have j1 := IC.1
  have j2 := IC.2.1
  rw [← hg] at j1 j2
  have hls := lnN_ls h4
  have htl : (inkT g).length ≤ 60 := by unfold inkT; rw [List.length_take]; omega
  have htl2 : (inkT g).length ≤ g.length := by unfold inkT; rw [List.length_take, List.length_take]; omega
  have hget : ∀ i, i < (inkT g).length → (inkT g).getD i 0 = g.getD i 0 := by
    intro i hi
    unfold inkT at hi ⊢
    rw [List.length_take, List.length_take] at hi
    rw [getD_takeN (by omega), getD_takeN (by omega)]
  intro n
  induction n with
  | zero =>
    intro k σ hkn hz g04 g44 g42 e3 e35 hf
    refine e_Mod_sign_209 A _ _ ⟨hz.1, ?_⟩
    rw [g42, if_pos ((nI_le_iff (by omega) (by omega)).mpr (by omega))]
    refine c_forget hz hc ?_
    simp only [kV_v]
    have f1 : MF scF (inP A c) A σ (uI (uI σ (A + 2) c (nI 0)) (A + 4) c (nI 0)) := (MF.uI (by unfold inP; omega)).tr (MF.uI (by unfold inP; omega))
    have f2 := hf.tr f1
    have M1 := hM.chan f2.inc ((hM.2.1 c hc).ink (g := []) (fg := false) f2 (by simp (disch := omega) only [bs_pI, cc_pI, cs_pI, sh_pI, gR_pI, eI_pI, eR_pI, eL_pI, bs_pR, cc_pR, cs_pR, sh_pR, gI_pR, eI_pR, eR_pR, eL_pR, bs_uI, cc_uI, cs_uI, sh_uI, gI_uI, gR_uI, eR_uI, eL_uI, bs_uR, cc_uR, cs_uR, sh_uR, gI_uR, gR_uR, eI_uR, eL_uR, bs_uL, cc_uL, cs_uL, sh_uL, gI_uL, gR_uL, eI_uL, eR_uL, gI_s, gI_d, gR_s, gR_d, eI_s, eI_d, eI_e, eR_s, eR_d, eR_e, eL_s, eL_d, bs_bump, cc_bump, cs_bump, sh_bump, gI_bump, gR_bump, eI_bump, eR_bump, eL_bump]; rfl) (by simp) (fun i hi => absurd hi (Nat.not_lt_zero _)) (by simp only [bs_pI, cc_pI, cs_pI, sh_pI, gR_pI, eI_pI, eR_pI, eL_pI, bs_pR, cc_pR, cs_pR, sh_pR, gI_pR, eI_pR, eR_pR, eL_pR, bs_uI, cc_uI, cs_uI, sh_uI, gI_uI, gR_uI, eR_uI, eL_uI, bs_uR, cc_uR, cs_uR, sh_uR, gI_uR, gR_uR, eI_uR, eL_uR, bs_uL, cc_uL, cs_uL, sh_uL, gI_uL, gR_uL, eI_uL, eR_uL, gI_s, gI_d, gR_s, gR_d, eI_s, eI_d, eI_e, eR_s, eR_d, eR_e, eL_s, eL_d, bs_bump, cc_bump, cs_bump, sh_bump, gI_bump, gR_bump, eI_bump, eR_bump, eL_bump]; rfl))
    have x1 : TM (uI (uI σ (A + 2) c (nI 0)) (A + 4) c (nI 0)) A (inkT g) := ⟨by simp only [bs_pI, cc_pI, cs_pI, sh_pI, gR_pI, eI_pI, eR_pI, eL_pI, bs_pR, cc_pR, cs_pR, sh_pR, gI_pR, eI_pR, eR_pR, eL_pR, bs_uI, cc_uI, cs_uI, sh_uI, gI_uI, gR_uI, eR_uI, eL_uI, bs_uR, cc_uR, cs_uR, sh_uR, gI_uR, gR_uR, eI_uR, eL_uR, bs_uL, cc_uL, cs_uL, sh_uL, gI_uL, gR_uL, eI_uL, eR_uL, gI_s, gI_d, gR_s, gR_d, eI_s, eI_d, eI_e, eR_s, eR_d, eR_e, eL_s, eL_d, bs_bump, cc_bump, cs_bump, sh_bump, gI_bump, gR_bump, eI_bump, eR_bump, eL_bump]; exact g42, htl, fun i hi => by simp (disch := omega) only [bs_pI, cc_pI, cs_pI, sh_pI, gR_pI, eI_pI, eR_pI, eL_pI, bs_pR, cc_pR, cs_pR, sh_pR, gI_pR, eI_pR, eR_pR, eL_pR, bs_uI, cc_uI, cs_uI, sh_uI, gI_uI, gR_uI, eR_uI, eL_uI, bs_uR, cc_uR, cs_uR, sh_uR, gI_uR, gR_uR, eI_uR, eL_uR, bs_uL, cc_uL, cs_uL, sh_uL, gI_uL, gR_uL, eI_uL, eR_uL, gI_s, gI_d, gR_s, gR_d, eI_s, eI_d, eI_e, eR_s, eR_d, eR_e, eL_s, eL_d, bs_bump, cc_bump, cs_bump, sh_bump, gI_bump, gR_bump, eI_bump, eR_bump, eL_bump]; exact e35 i (by omega), fun x hx => j2 x (List.mem_of_mem_take (List.mem_of_mem_take hx))⟩
    have I1' : Inv (uC S c (wIn (S.1 c) [] false)) T := hI0.chan (Nat.le_refl _) (IC.wIn (Nat.zero_le _) (fun x hx => absurd hx (List.not_mem_nil)))
    refine ⟨M1.1.1, c_finish (d := d) M1 I1' hB hc x1 (by simp only [bs_pI, cc_pI, cs_pI, sh_pI, gR_pI, eI_pI, eR_pI, eL_pI, bs_pR, cc_pR, cs_pR, sh_pR, gI_pR, eI_pR, eR_pR, eL_pR, bs_uI, cc_uI, cs_uI, sh_uI, gI_uI, gR_uI, eR_uI, eL_uI, bs_uR, cc_uR, cs_uR, sh_uR, gI_uR, gR_uR, eI_uR, eL_uR, bs_uL, cc_uL, cs_uL, sh_uL, gI_uL, gR_uL, eI_uL, eR_uL, gI_s, gI_d, gR_s, gR_d, eI_s, eI_d, eI_e, eR_s, eR_d, eR_e, eL_s, eL_d, bs_bump, cc_bump, cs_bump, sh_bump, gI_bump, gR_bump, eI_bump, eR_bump, eL_bump]; exact g44) (fun σ' M2 t2 r2 => ?_)⟩
    rw [hand_in] at M2 ⊢
    simp only [kI_i]
    exact hk σ' M2 (by rw [t2]; simp only [bs_pI, cc_pI, cs_pI, sh_pI, gR_pI, eI_pI, eR_pI, eL_pI, bs_pR, cc_pR, cs_pR, sh_pR, gI_pR, eI_pR, eR_pR, eL_pR, bs_uI, cc_uI, cs_uI, sh_uI, gI_uI, gR_uI, eR_uI, eL_uI, bs_uR, cc_uR, cs_uR, sh_uR, gI_uR, gR_uR, eI_uR, eL_uR, bs_uL, cc_uL, cs_uL, sh_uL, gI_uL, gR_uL, eI_uL, eR_uL, gI_s, gI_d, gR_s, gR_d, eI_s, eI_d, eI_e, eR_s, eR_d, eR_e, eL_s, eL_d, bs_bump, cc_bump, cs_bump, sh_bump, gI_bump, gR_bump, eI_bump, eR_bump, eL_bump]; exact g04) ((f2.inf hc).tr r2)
  | succ n ih =>
    intro k σ hkn hz g04 g44 g42 e3 e35 hf
    have hlt := getD_lt j2 k
    refine e_Mod_sign_209 A _ _ ⟨hz.1, ?_⟩
    rw [g42, if_neg (fun q => by have := (nI_le_iff (by omega) (by omega)).mp q; omega)]
    simp (disch := omega) only [bs_pI, cc_pI, cs_pI, sh_pI, gR_pI, eI_pI, eR_pI, eL_pI, bs_pR, cc_pR, cs_pR, sh_pR, gI_pR, eI_pR, eR_pR, eL_pR, bs_uI, cc_uI, cs_uI, sh_uI, gI_uI, gR_uI, eR_uI, eL_uI, bs_uR, cc_uR, cs_uR, sh_uR, gI_uR, gR_uR, eI_uR, eL_uR, bs_uL, cc_uL, cs_uL, sh_uL, gI_uL, gR_uL, eI_uL, eR_uL, gI_s, gI_d, gR_s, gR_d, eI_s, eI_d, eI_e, eR_s, eR_d, eR_e, eL_s, eL_d, bs_bump, cc_bump, cs_bump, sh_bump, gI_bump, gR_bump, eI_bump, eR_bump, eL_bump, l_0, l_1, l_2, l_3, l_4, l_5, l_6, l_7, l_8, l_9, l_10, l_11, l_12, l_13, l_14, l_15, l_16, l_17, l_18, l_19, l_20, l_21, l_22, l_23, l_24, l_25, l_26, l_27, l_28, l_29, l_30, l_31, l_32, l_33, l_34, l_35, l_36, l_37, l_38, l_39, l_40, l_41, l_42, l_43, l_44, l_45, l_46, l_47, l_48, l_49, l_50, l_51, l_52, l_53, l_54, l_55, l_56, l_57, l_58, l_59, l_60, l_61, l_62, l_63, l_64, l_65, l_66, l_67, l_68, l_69, l_70, l_71, l_72, l_73, l_74, l_75, l_76, l_77, l_78, l_79, l_80, l_81, l_82, l_83, l_84, l_85, l_86, l_87, l_88, l_89, l_90, l_91, l_92, l_93, l_94, l_95, l_96, l_97, l_98, l_99, l_100, l_101, l_102, l_103, l_104, l_105, l_106, l_107, l_108, l_109, l_110, l_111, l_112, l_113, l_114, l_115, l_116, l_117, l_118, l_119, l_120, l_121, l_122, l_123, l_124, l_125, l_126, l_127, l_128, l_129, l_130, l_256, l_512, l_676, l_704, l_999, l_1000, l_4096, l_17576, l_32768, l_65535, l_456975, l_456976, l_m1, l_m2, in_iff, eq_m1, m1_eq, m1_lt, m1_le, le_m1, lt_m1, eq_m2, m2_m1, m1_m2, add_m1, m1_add, sub_n, mul_n, add_n, bo_n0, bo_n1, ch_n, lt_n, le_n, eq_n, ix_n, i2c_n, rem_n, div_n, kI_i, kI_x, kV_v, kV_x, kR_r, kR_n, kR_x, kHI_i, kHI_0, kHI_1, kHV_v, kHV_0, kHV_1, va_s, va_n, exists_eq_left', exists_eq_left, forall_eq, forall_eq', and_true, true_and, and_self, Option.some.injEq, Prod.mk.injEq, if_tt, if_ff, reduceIte, reduceCtorEq, not_true_eq_false, not_false_eq_true, Nat.reduceAdd, Nat.reduceMul, Nat.reduceSub, Nat.reduceLT, Nat.reduceLeDiff, Nat.reduceEqDiff, false_implies, true_implies, implies_true, hz.1, z_707 hz, s_707 hz, z_743 hz, s_743 hz]
    rw [e3 k (by omega)]
    refine ⟨by omega, by omega, ch_nI (by omega), ?_⟩
    have f1 : MF scF (inP A c) A σ (uI σ (A + 35) k (nI (g.getD k 0))) := MF.uI (by unfold inP scP; omega)
    refine ih (k + 1) _ (by omega) (f1.z hz) (by simp only [bs_pI, cc_pI, cs_pI, sh_pI, gR_pI, eI_pI, eR_pI, eL_pI, bs_pR, cc_pR, cs_pR, sh_pR, gI_pR, eI_pR, eR_pR, eL_pR, bs_uI, cc_uI, cs_uI, sh_uI, gI_uI, gR_uI, eR_uI, eL_uI, bs_uR, cc_uR, cs_uR, sh_uR, gI_uR, gR_uR, eI_uR, eL_uR, bs_uL, cc_uL, cs_uL, sh_uL, gI_uL, gR_uL, eI_uL, eR_uL, gI_s, gI_d, gR_s, gR_d, eI_s, eI_d, eI_e, eR_s, eR_d, eR_e, eL_s, eL_d, bs_bump, cc_bump, cs_bump, sh_bump, gI_bump, gR_bump, eI_bump, eR_bump, eL_bump]; exact g04) (by simp only [bs_pI, cc_pI, cs_pI, sh_pI, gR_pI, eI_pI, eR_pI, eL_pI, bs_pR, cc_pR, cs_pR, sh_pR, gI_pR, eI_pR, eR_pR, eL_pR, bs_uI, cc_uI, cs_uI, sh_uI, gI_uI, gR_uI, eR_uI, eL_uI, bs_uR, cc_uR, cs_uR, sh_uR, gI_uR, gR_uR, eI_uR, eL_uR, bs_uL, cc_uL, cs_uL, sh_uL, gI_uL, gR_uL, eI_uL, eR_uL, gI_s, gI_d, gR_s, gR_d, eI_s, eI_d, eI_e, eR_s, eR_d, eR_e, eL_s, eL_d, bs_bump, cc_bump, cs_bump, sh_bump, gI_bump, gR_bump, eI_bump, eR_bump, eL_bump]; exact g44) (by simp only [bs_pI, cc_pI, cs_pI, sh_pI, gR_pI, eI_pI, eR_pI, eL_pI, bs_pR, cc_pR, cs_pR, sh_pR, gI_pR, eI_pR, eR_pR, eL_pR, bs_uI, cc_uI, cs_uI, sh_uI, gI_uI, gR_uI, eR_uI, eL_uI, bs_uR, cc_uR, cs_uR, sh_uR, gI_uR, gR_uR, eI_uR, eL_uR, bs_uL, cc_uL, cs_uL, sh_uL, gI_uL, gR_uL, eI_uL, eR_uL, gI_s, gI_d, gR_s, gR_d, eI_s, eI_d, eI_e, eR_s, eR_d, eR_e, eL_s, eL_d, bs_bump, cc_bump, cs_bump, sh_bump, gI_bump, gR_bump, eI_bump, eR_bump, eL_bump]; exact g42) (fun i hi => by simp (disch := omega) only [bs_pI, cc_pI, cs_pI, sh_pI, gR_pI, eI_pI, eR_pI, eL_pI, bs_pR, cc_pR, cs_pR, sh_pR, gI_pR, eI_pR, eR_pR, eL_pR, bs_uI, cc_uI, cs_uI, sh_uI, gI_uI, gR_uI, eR_uI, eL_uI, bs_uR, cc_uR, cs_uR, sh_uR, gI_uR, gR_uR, eI_uR, eL_uR, bs_uL, cc_uL, cs_uL, sh_uL, gI_uL, gR_uL, eI_uL, eR_uL, gI_s, gI_d, gR_s, gR_d, eI_s, eI_d, eI_e, eR_s, eR_d, eR_e, eL_s, eL_d, bs_bump, cc_bump, cs_bump, sh_bump, gI_bump, gR_bump, eI_bump, eR_bump, eL_bump]; exact e3 i hi) (fun i hi => ?_) (hf.tr f1)
    by_cases hik : i = k
    · subst hik; simp only [bs_pI, cc_pI, cs_pI, sh_pI, gR_pI, eI_pI, eR_pI, eL_pI, bs_pR, cc_pR, cs_pR, sh_pR, gI_pR, eI_pR, eR_pR, eL_pR, bs_uI, cc_uI, cs_uI, sh_uI, gI_uI, gR_uI, eR_uI, eL_uI, bs_uR, cc_uR, cs_uR, sh_uR, gI_uR, gR_uR, eI_uR, eL_uR, bs_uL, cc_uL, cs_uL, sh_uL, gI_uL, gR_uL, eI_uL, eR_uL, gI_s, gI_d, gR_s, gR_d, eI_s, eI_d, eI_e, eR_s, eR_d, eR_e, eL_s, eL_d, bs_bump, cc_bump, cs_bump, sh_bump, gI_bump, gR_bump, eI_bump, eR_bump, eL_bump]; rw [hget i (by omega)]
    · simp (disch := omega) only [bs_pI, cc_pI, cs_pI, sh_pI, gR_pI, eI_pI, eR_pI, eL_pI, bs_pR, cc_pR, cs_pR, sh_pR, gI_pR, eI_pR, eR_pR, eL_pR, bs_uI, cc_uI, cs_uI, sh_uI, gI_uI, gR_uI, eR_uI, eL_uI, bs_uR, cc_uR, cs_uR, sh_uR, gI_uR, gR_uR, eI_uR, eL_uR, bs_uL, cc_uL, cs_uL, sh_uL, gI_uL, gR_uL, eI_uL, eR_uL, gI_s, gI_d, gR_s, gR_d, eI_s, eI_d, eI_e, eR_s, eR_d, eR_e, eL_s, eL_d, bs_bump, cc_bump, cs_bump, sh_bump, gI_bump, gR_bump, eI_bump, eR_bump, eL_bump]; exact e35 i (by omega)
theorem q_sign {x y : Int32} {T : Nat} (hM : MR σ A S) (hI : Inv S T) (hT : T ≤ 600) (hB : Bd S) (hkA : (x < 0 ∨ ¬ x ≤ 7) ∨ (y < 0 ∨ ¬ y ≤ 31) → Aft σ A S 1 (K (.inl (some (.int (nI 0)))))) (hk : ∀ c s, c < 8 → s < 32 → x = nI c → y = nI s → Aft σ A (spSign S c s).1 0 (K (.inl (some (.int (spSign S c s).2))))) : PW (d + 5) M_Mod_sign 0 [.ref A, .int x, .int y, uu, uu] [] σ K := by
  have hz := hM.1
  have bad : ((x < 0 ∨ ¬ x ≤ 7) ∨ (y < 0 ∨ ¬ y ≤ 31)) → PW (d + 5) M_Mod_sign 22 [.ref A, .int x, .int y, uu, uu] [.ref A] σ K := by
    intro q
    refine e_Mod_sign_22 A _ _ _ (e_Mod_sign_23 A _ _ _ _ ⟨hz.1, c_refused (n := 1) hz (by omega) ?_⟩)
    simp only [kI_i]
    rw [if_neg (by decide)]
    exact (hkA q).at hM
  refine e_Mod_sign_0 A _ _ (c_isChannel (fun c hc ec => ?_) (fun q => ?_))
  · simp only [kI_i]
    rw [if_neg (by decide)]
    refine c_isIn (fun q1 q2 => ?_) (fun q => ?_)
    · simp only [kI_i]
      rw [if_neg (by decide)]
      obtain ⟨s, hs, es⟩ := nI_of2 (M := 31) (n := 31) (by decide) q1 q2
      replace hk := hk c s hc (by omega) ec es
      subst ec es
      clear hkA bad
      have hI0 := hI
      obtain ⟨I1, I2, I3, I4, I5⟩ := hI
      have IC := I4 c hc
      have j1 := IC.1
      have j2 := IC.2.1
      obtain ⟨g, hg⟩ : ∃ g, g = sG (S.1 c) := ⟨_, rfl⟩
      obtain ⟨fg, hfg⟩ : ∃ fg, fg = sF (S.1 c) := ⟨_, rfl⟩
      have mc := hM.2.1 c hc
      obtain ⟨a1, a2, a3, a4, a5, -⟩ := mc
      unfold spSign at hk
      rw [← hg] at j1 j2 a2 a3 a4 hk
      rw [← hfg] at a5 hk
      refine e_Mod_sign_23 A _ _ _ _ ⟨hz.1, c_refused (n := 0) hz (by omega) ?_⟩
      simp only [kI_i]
      rw [if_pos (by decide)]
      have f0 : MF scF (inP A c) A σ (pI σ 704 A (nI 0)) := MF.pI (Or.inl rfl)
      have z0 := f0.z hz
      have b1 : eI (pI σ 704 A (nI 0)) (A + 1) c = nI (!sOp (S.1 c)).toNat := a1
      have b2 : eI (pI σ 704 A (nI 0)) (A + 2) c = nI g.length := a2
      have b4 : eI (pI σ 704 A (nI 0)) (A + 4) c = nI fg.toNat := a5
      have b3 : ∀ i, i < g.length → eI (pI σ 704 A (nI 0)) (A + 3) (4096 * c + i) = nI (g.getD i 0) := a4
      have g0 : gI (pI σ 704 A (nI 0)) 704 A = nI 0 := gI_s
      generalize hσ1 : pI σ 704 A (nI 0) = σ1 at *
      refine ⟨z0.1, A + 1, z_705 z0, 8, s_705 z0, in_n hc (by decide), ?_⟩
      rw [ix_n (by omega), b1]
      cases hop : sOp (S.1 c) with
      | false =>
        rw [if_neg (by decide)]
        rw [if_pos hop] at hk
        exact hk σ1 (hM.sc (by rw [← hσ1]; exact sc704)) g0 (f0.inf hc)
      | true =>
        rw [if_pos (by decide)]
        rw [if_neg (by rw [hop]; decide)] at hk
        have fin0 : ∀ σ2 g' fg', MF scF (inP A c) A σ σ2 → gI σ2 704 A = nI 0 → eI σ2 (A + 2) c = nI g'.length → g'.length < 4000 → (∀ i, i < g'.length → eI σ2 (A + 3) (4096 * c + i) = nI (g'.getD i 0)) → eI σ2 (A + 4) c = nI (Bool.toNat fg') → inkE g fg s = false → inkG g fg s = g' → inkF fg s = fg' → K (.inl (some (.int 0))) σ2 := by
          intro σ2 g' fg' f2 t2 c2 cl c3 c4 hE hG hF
          rw [if_neg (by rw [hE]; decide), hG, hF] at hk
          exact hk σ2 (hM.chan f2.inc ((hM.2.1 c hc).ink f2 c2 cl c3 c4)) t2 (f2.inf hc)
        have gat : ∀ (v : Nat) (Q : PH → Prop), v < 128 → (∀ σ2, MZ σ2 A → MF scF (inP A c) A σ σ2 → gI σ2 704 A = nI 0 → eI σ2 (A + 2) c = nI (g ++ [v]).length → (∀ i, i < (g ++ [v]).length → eI σ2 (A + 3) (4096 * c + i) = nI ((g ++ [v]).getD i 0)) → eI σ2 (A + 4) c = nI fg.toNat → Q σ2) → PW (d + 4) M_Mod_gather 0 [.ref A, .int (nI c), .int (nI v)] [] σ1 (kV Q K) := by
          intro v Q hv hQ
          refine c_gather z0 hc (by omega) b2 (by omega) ?_
          simp only [kV_v]
          have f2 : MF scF (inP A c) A σ1 (uI (uI σ1 (A + 3) (4096 * c + g.length) (nI v)) (A + 2) c (nI (g.length + 1))) := (MF.uI (by unfold inP; omega)).tr (MF.uI (by unfold inP; omega))
          refine hQ _ (f2.z z0) (f0.tr f2) (by simp only [bs_pI, cc_pI, cs_pI, sh_pI, gR_pI, eI_pI, eR_pI, eL_pI, bs_pR, cc_pR, cs_pR, sh_pR, gI_pR, eI_pR, eR_pR, eL_pR, bs_uI, cc_uI, cs_uI, sh_uI, gI_uI, gR_uI, eR_uI, eL_uI, bs_uR, cc_uR, cs_uR, sh_uR, gI_uR, gR_uR, eI_uR, eL_uR, bs_uL, cc_uL, cs_uL, sh_uL, gI_uL, gR_uL, eI_uL, eR_uL, gI_s, gI_d, gR_s, gR_d, eI_s, eI_d, eI_e, eR_s, eR_d, eR_e, eL_s, eL_d, bs_bump, cc_bump, cs_bump, sh_bump, gI_bump, gR_bump, eI_bump, eR_bump, eL_bump]; exact g0) (by simp only [bs_pI, cc_pI, cs_pI, sh_pI, gR_pI, eI_pI, eR_pI, eL_pI, bs_pR, cc_pR, cs_pR, sh_pR, gI_pR, eI_pR, eR_pR, eL_pR, bs_uI, cc_uI, cs_uI, sh_uI, gI_uI, gR_uI, eR_uI, eL_uI, bs_uR, cc_uR, cs_uR, sh_uR, gI_uR, gR_uR, eI_uR, eL_uR, bs_uL, cc_uL, cs_uL, sh_uL, gI_uL, gR_uL, eI_uL, eR_uL, gI_s, gI_d, gR_s, gR_d, eI_s, eI_d, eI_e, eR_s, eR_d, eR_e, eL_s, eL_d, bs_bump, cc_bump, cs_bump, sh_bump, gI_bump, gR_bump, eI_bump, eR_bump, eL_bump]; rw [List.length_append, List.length_singleton]) (fun i hi => ?_) (by simp (disch := omega) only [bs_pI, cc_pI, cs_pI, sh_pI, gR_pI, eI_pI, eR_pI, eL_pI, bs_pR, cc_pR, cs_pR, sh_pR, gI_pR, eI_pR, eR_pR, eL_pR, bs_uI, cc_uI, cs_uI, sh_uI, gI_uI, gR_uI, eR_uI, eL_uI, bs_uR, cc_uR, cs_uR, sh_uR, gI_uR, gR_uR, eI_uR, eL_uR, bs_uL, cc_uL, cs_uL, sh_uL, gI_uL, gR_uL, eI_uL, eR_uL, gI_s, gI_d, gR_s, gR_d, eI_s, eI_d, eI_e, eR_s, eR_d, eR_e, eL_s, eL_d, bs_bump, cc_bump, cs_bump, sh_bump, gI_bump, gR_bump, eI_bump, eR_bump, eL_bump]; exact b4)
          rw [List.length_append, List.length_singleton] at hi
          rw [getD_snoc]
          by_cases hil : i < g.length
          · rw [if_pos hil]; simp (disch := omega) only [bs_pI, cc_pI, cs_pI, sh_pI, gR_pI, eI_pI, eR_pI, eL_pI, bs_pR, cc_pR, cs_pR, sh_pR, gI_pR, eI_pR, eR_pR, eL_pR, bs_uI, cc_uI, cs_uI, sh_uI, gI_uI, gR_uI, eR_uI, eL_uI, bs_uR, cc_uR, cs_uR, sh_uR, gI_uR, gR_uR, eI_uR, eL_uR, bs_uL, cc_uL, cs_uL, sh_uL, gI_uL, gR_uL, eI_uL, eR_uL, gI_s, gI_d, gR_s, gR_d, eI_s, eI_d, eI_e, eR_s, eR_d, eR_e, eL_s, eL_d, bs_bump, cc_bump, cs_bump, sh_bump, gI_bump, gR_bump, eI_bump, eR_bump, eL_bump]; exact b3 i hil
          · have hie : i = g.length := by omega
            subst hie
            rw [if_neg hil, if_pos rfl]; simp (disch := omega) only [bs_pI, cc_pI, cs_pI, sh_pI, gR_pI, eI_pI, eR_pI, eL_pI, bs_pR, cc_pR, cs_pR, sh_pR, gI_pR, eI_pR, eR_pR, eL_pR, bs_uI, cc_uI, cs_uI, sh_uI, gI_uI, gR_uI, eR_uI, eL_uI, bs_uR, cc_uR, cs_uR, sh_uR, gI_uR, gR_uR, eI_uR, eL_uR, bs_uL, cc_uL, cs_uL, sh_uL, gI_uL, gR_uL, eI_uL, eR_uL, gI_s, gI_d, gR_s, gR_d, eI_s, eI_d, eI_e, eR_s, eR_d, eR_e, eL_s, eL_d, bs_bump, cc_bump, cs_bump, sh_bump, gI_bump, gR_bump, eI_bump, eR_bump, eL_bump]
        have not27 : ∀ σ2, s ≠ 27 → K (.inl (some (.int 0))) σ2 → PW (d + 5) M_Mod_sign 149 [.ref A, .int (nI c), .int (nI s), uu, uu] [] σ2 K := by
          intro σ2 h hK
          refine e_Mod_sign_149 A _ _ ?_
          rw [if_neg (show ¬ nI s = (27 : Int32) from fun q => h ((nI_eq_iff (b := 27) (by omega) (by omega)).mp q))]
          exact hK
        have addl : ∀ v, v < 128 → s ≠ 27 → s ≠ 28 → s ≠ 29 → chr s fg = v → v ≠ 0 → v ≠ 10 → PW (d + 4) M_Mod_gather 0 [.ref A, .int (nI c), .int (nI v)] [] σ1 (kV (fun σ2 => PW (d + 5) M_Mod_sign 149 [.ref A, .int (nI c), .int (nI s), uu, uu] [] σ2 K) K) := by
          intro v hv h27 h28 h29 hch h0 h10
          refine gat v _ hv (fun σ2 z2 f2 t2 c2 c3 c4 => not27 σ2 h27 ?_)
          have hE : inkE g fg s = false := decide_eq_false (fun q => h10 (by rw [← hch]; exact q.2.2.1))
          refine fin0 σ2 _ _ f2 t2 c2 (by rw [List.length_append, List.length_singleton]; omega) c3 c4 hE ?_ ?_
          · unfold inkG
            rw [if_neg, hch]
            rintro (q | q | q | q)
            · exact h28 q
            · exact h29 q
            · rw [hch] at q; exact h0 q
            · rw [hE] at q; exact absurd q (by decide)
          · unfold inkF; rw [if_neg h28, if_neg h29]
        have noadd : s ≠ 27 → s ≠ 28 → s ≠ 29 → chr s fg = 0 → PW (d + 5) M_Mod_sign 149 [.ref A, .int (nI c), .int (nI s), uu, uu] [] σ1 K := by
          intro h27 h28 h29 hch
          have hE : inkE g fg s = false := decide_eq_false (fun q => absurd (hch ▸ q.2.2.1 : (0 : Nat) = 10) (by decide))
          refine not27 σ1 h27 (fin0 σ1 _ _ f0 g0 b2 (by omega) b3 b4 hE ?_ ?_)
          · unfold inkG; rw [if_pos (Or.inr (Or.inr (Or.inl hch)))]
          · unfold inkF; rw [if_neg h28, if_neg h29]
        by_cases h26 : s = 26
        · subst h26
          rw [if_pos (show nI 26 = (26 : Int32) by decide)]
          exact addl 32 (by decide) (by decide) (by decide) (by decide) (by unfold chr; rw [if_pos rfl]) (by decide) (by decide)
        · rw [if_neg (show ¬ nI s = (26 : Int32) from fun q => h26 ((nI_eq_iff (b := 26) (by omega) (by omega)).mp q))]
          by_cases h27 : s = 27
          · subst h27
            rw [if_pos (show nI 27 = (27 : Int32) by decide)]
            have hch : chr 27 fg = 10 := by unfold chr; rw [if_neg (by decide), if_pos rfl]
            refine gat 10 _ (by decide) (fun σ2 z2 f2 t2 c2 c3 c4 => ?_)
            have c2' : eI σ2 (A + 2) c = nI (g.length + 1) := by rw [c2, List.length_append, List.length_singleton]
            refine e_Mod_sign_149 A _ _ ?_
            rw [if_pos (show nI 27 = (27 : Int32) by decide)]
            have c3' : ∀ i, i < g.length → eI σ2 (A + 3) (4096 * c + i) = nI (g.getD i 0) := fun i hi => by
              rw [c3 i (by rw [List.length_append, List.length_singleton]; omega), getD_snoc, if_pos hi]
            refine ⟨z2.1, c_isEnd z2 hc (by omega) j2 c2' c3' (by rw [c3 g.length (by rw [List.length_append, List.length_singleton]; omega), getD_snoc, if_neg (by omega), if_pos rfl]) (fun b hb => ?_)⟩
            simp only [kI_i]
            cases b with
            | false =>
              rw [if_pos (by decide)]
              have hE : inkE g fg 27 = false := decide_eq_false (fun q => absurd (hb.mpr q.2.2.2) (by decide))
              refine fin0 σ2 _ _ f2 t2 c2 (by rw [List.length_append, List.length_singleton]; omega) c3 c4 hE ?_ ?_
              · unfold inkG
                rw [if_neg, hch]
                rintro (q | q | q | q)
                · exact absurd q (by decide)
                · exact absurd q (by decide)
                · rw [hch] at q; exact absurd q (by decide)
                · rw [hE] at q; exact absurd q (by decide)
              · unfold inkF; rw [if_neg (by decide), if_neg (by decide)]
            | true =>
              rw [if_neg (by decide)]
              have h4 := hb.mp rfl
              have hE : inkE g fg 27 = true := decide_eq_true ⟨by decide, by decide, hch, h4⟩
              rw [if_pos hE] at hk
              have hls := lnN_ls h4
              refine ⟨z2.1, A + 2, z_706 z2, 8, s_706 z2, in_n hc (by decide), ?_⟩
              rw [ix_n (by omega), c2', show nI (g.length + 1) - 5 = nI (lnS g) by rw [l_5, sub_n (by omega)]; congr 1; omega]
              have htl : (inkT g).length = if 60 < lnS g then 60 else lnS g := by
                unfold inkT; rw [List.length_take, List.length_take]; split <;> omega
              have last : ∀ σ3, MZ σ3 A → MF scF (inP A c) A σ σ3 → gI σ3 704 A = nI 0 → gI σ3 744 A = nI (decide (60 < lnS g)).toNat → (∀ i, i < g.length → eI σ3 (A + 3) (4096 * c + i) = nI (g.getD i 0)) → PW (d + 5) M_Mod_sign 203 [.ref A, .int (nI c), uu, uu, uu] [.int (nI (inkT g).length), .ref A] σ3 K := by
                intro σ3 z3 f3 t3 g3 e3
                refine e_Mod_sign_203 A _ _ _ ⟨z3.1, fun σ4 e4 => ?_⟩
                have f4 : MF scF (inP A c) A σ3 σ4 := by rw [e4]; exact MF.pI (by unfold scF; omega)
                subst e4
                exact sign_text (y := 0) (σ0 := σ) (g := g) (S := S) hM hI0 hT hB hc hg h4 hk (inkT g).length 0 _ (by omega) (f4.z z3) (by simp (disch := omega) only [bs_pI, cc_pI, cs_pI, sh_pI, gR_pI, eI_pI, eR_pI, eL_pI, bs_pR, cc_pR, cs_pR, sh_pR, gI_pR, eI_pR, eR_pR, eL_pR, bs_uI, cc_uI, cs_uI, sh_uI, gI_uI, gR_uI, eR_uI, eL_uI, bs_uR, cc_uR, cs_uR, sh_uR, gI_uR, gR_uR, eI_uR, eL_uR, bs_uL, cc_uL, cs_uL, sh_uL, gI_uL, gR_uL, eI_uL, eR_uL, gI_s, gI_d, gR_s, gR_d, eI_s, eI_d, eI_e, eR_s, eR_d, eR_e, eL_s, eL_d, bs_bump, cc_bump, cs_bump, sh_bump, gI_bump, gR_bump, eI_bump, eR_bump, eL_bump]; exact t3) (by simp (disch := omega) only [bs_pI, cc_pI, cs_pI, sh_pI, gR_pI, eI_pI, eR_pI, eL_pI, bs_pR, cc_pR, cs_pR, sh_pR, gI_pR, eI_pR, eR_pR, eL_pR, bs_uI, cc_uI, cs_uI, sh_uI, gI_uI, gR_uI, eR_uI, eL_uI, bs_uR, cc_uR, cs_uR, sh_uR, gI_uR, gR_uR, eI_uR, eL_uR, bs_uL, cc_uL, cs_uL, sh_uL, gI_uL, gR_uL, eI_uL, eR_uL, gI_s, gI_d, gR_s, gR_d, eI_s, eI_d, eI_e, eR_s, eR_d, eR_e, eL_s, eL_d, bs_bump, cc_bump, cs_bump, sh_bump, gI_bump, gR_bump, eI_bump, eR_bump, eL_bump]; exact g3) (by simp only [bs_pI, cc_pI, cs_pI, sh_pI, gR_pI, eI_pI, eR_pI, eL_pI, bs_pR, cc_pR, cs_pR, sh_pR, gI_pR, eI_pR, eR_pR, eL_pR, bs_uI, cc_uI, cs_uI, sh_uI, gI_uI, gR_uI, eR_uI, eL_uI, bs_uR, cc_uR, cs_uR, sh_uR, gI_uR, gR_uR, eI_uR, eL_uR, bs_uL, cc_uL, cs_uL, sh_uL, gI_uL, gR_uL, eI_uL, eR_uL, gI_s, gI_d, gR_s, gR_d, eI_s, eI_d, eI_e, eR_s, eR_d, eR_e, eL_s, eL_d, bs_bump, cc_bump, cs_bump, sh_bump, gI_bump, gR_bump, eI_bump, eR_bump, eL_bump]) (fun i hi => by simp only [bs_pI, cc_pI, cs_pI, sh_pI, gR_pI, eI_pI, eR_pI, eL_pI, bs_pR, cc_pR, cs_pR, sh_pR, gI_pR, eI_pR, eR_pR, eL_pR, bs_uI, cc_uI, cs_uI, sh_uI, gI_uI, gR_uI, eR_uI, eL_uI, bs_uR, cc_uR, cs_uR, sh_uR, gI_uR, gR_uR, eI_uR, eL_uR, bs_uL, cc_uL, cs_uL, sh_uL, gI_uL, gR_uL, eI_uL, eR_uL, gI_s, gI_d, gR_s, gR_d, eI_s, eI_d, eI_e, eR_s, eR_d, eR_e, eL_s, eL_d, bs_bump, cc_bump, cs_bump, sh_bump, gI_bump, gR_bump, eI_bump, eR_bump, eL_bump]; exact e3 i hi) (fun i hi => absurd hi (Nat.not_lt_zero _)) (f3.tr f4)
              have at186 : ∀ lg : Bool, lg = decide (60 < lnS g) → PW (d + 5) M_Mod_sign 186 [.ref A, .int (nI c), uu, .int (nI (lnS g)), uu] [.int (nI lg.toNat), .ref A] σ2 K := by
                intro lg hlg
                refine e_Mod_sign_186 A _ _ _ _ ⟨z2.1, nI_bo, fun σ3 e3 => ?_⟩
                have f3 : MF scF (inP A c) A σ2 σ3 := by rw [e3]; exact MF.pI (by unfold scF; omega)
                have g3 : gI σ3 744 A = nI lg.toNat := by rw [e3]; exact gI_s
                have t3 : gI σ3 704 A = nI 0 := by rw [e3]; simp (disch := omega) only [bs_pI, cc_pI, cs_pI, sh_pI, gR_pI, eI_pI, eR_pI, eL_pI, bs_pR, cc_pR, cs_pR, sh_pR, gI_pR, eI_pR, eR_pR, eL_pR, bs_uI, cc_uI, cs_uI, sh_uI, gI_uI, gR_uI, eR_uI, eL_uI, bs_uR, cc_uR, cs_uR, sh_uR, gI_uR, gR_uR, eI_uR, eL_uR, bs_uL, cc_uL, cs_uL, sh_uL, gI_uL, gR_uL, eI_uL, eR_uL, gI_s, gI_d, gR_s, gR_d, eI_s, eI_d, eI_e, eR_s, eR_d, eR_e, eL_s, eL_d, bs_bump, cc_bump, cs_bump, sh_bump, gI_bump, gR_bump, eI_bump, eR_bump, eL_bump]; exact t2
                have w3 : ∀ i, i < g.length → eI σ3 (A + 3) (4096 * c + i) = nI (g.getD i 0) := fun i hi => by rw [e3]; simp only [bs_pI, cc_pI, cs_pI, sh_pI, gR_pI, eI_pI, eR_pI, eL_pI, bs_pR, cc_pR, cs_pR, sh_pR, gI_pR, eI_pR, eR_pR, eL_pR, bs_uI, cc_uI, cs_uI, sh_uI, gI_uI, gR_uI, eR_uI, eL_uI, bs_uR, cc_uR, cs_uR, sh_uR, gI_uR, gR_uR, eI_uR, eL_uR, bs_uL, cc_uL, cs_uL, sh_uL, gI_uL, gR_uL, eI_uL, eR_uL, gI_s, gI_d, gR_s, gR_d, eI_s, eI_d, eI_e, eR_s, eR_d, eR_e, eL_s, eL_d, bs_bump, cc_bump, cs_bump, sh_bump, gI_bump, gR_bump, eI_bump, eR_bump, eL_bump]; exact c3' i hi
                have := last σ3 (f3.z z2) (f2.tr f3) t3 (by rw [← hlg]; exact g3) w3
                refine ⟨(f3.z z2).1, ?_⟩
                rw [g3]
                cases lg with
                | false =>
                  have hn : ¬ 60 < lnS g := fun q => absurd (hlg.trans (decide_eq_true q)) (by decide)
                  rw [if_pos (by decide)]
                  rw [htl, if_neg hn] at this
                  exact this
                | true =>
                  have hn : 60 < lnS g := of_decide_eq_true hlg.symm
                  rw [if_neg (by decide)]
                  rw [htl, if_pos hn] at this
                  exact this
              by_cases h60 : lnS g ≤ 60
              · rw [if_pos (show nI (lnS g) ≤ (60 : Int32) from (nI_le_iff (b := 60) (by omega) (by decide)).mpr h60)]
                exact at186 false (decide_eq_false (by omega)).symm
              · rw [if_neg (show ¬ nI (lnS g) ≤ (60 : Int32) from fun q => h60 ((nI_le_iff (b := 60) (by omega) (by decide)).mp q))]
                exact at186 true (decide_eq_true (by omega)).symm
          · rw [if_neg (show ¬ nI s = (27 : Int32) from fun q => h27 ((nI_eq_iff (b := 27) (by omega) (by omega)).mp q))]
            by_cases h28 : s = 28
            · subst h28
              rw [if_pos (show nI 28 = (28 : Int32) by decide)]
              refine ⟨A + 4, z_708 z0, 8, s_708 z0, in_n hc (by decide), ?_⟩
              intro σ4 e4
              have e4 : σ4 = uI σ1 (A + 4) c (nI 0) := e4
              subst e4
              have f4 : MF scF (inP A c) A σ1 (uI σ1 (A + 4) c (nI 0)) := MF.uI (by unfold inP; omega)
              refine not27 _ (by decide) (fin0 _ g false (f0.tr f4) (by simp only [bs_pI, cc_pI, cs_pI, sh_pI, gR_pI, eI_pI, eR_pI, eL_pI, bs_pR, cc_pR, cs_pR, sh_pR, gI_pR, eI_pR, eR_pR, eL_pR, bs_uI, cc_uI, cs_uI, sh_uI, gI_uI, gR_uI, eR_uI, eL_uI, bs_uR, cc_uR, cs_uR, sh_uR, gI_uR, gR_uR, eI_uR, eL_uR, bs_uL, cc_uL, cs_uL, sh_uL, gI_uL, gR_uL, eI_uL, eR_uL, gI_s, gI_d, gR_s, gR_d, eI_s, eI_d, eI_e, eR_s, eR_d, eR_e, eL_s, eL_d, bs_bump, cc_bump, cs_bump, sh_bump, gI_bump, gR_bump, eI_bump, eR_bump, eL_bump]; exact g0) (by simp (disch := omega) only [bs_pI, cc_pI, cs_pI, sh_pI, gR_pI, eI_pI, eR_pI, eL_pI, bs_pR, cc_pR, cs_pR, sh_pR, gI_pR, eI_pR, eR_pR, eL_pR, bs_uI, cc_uI, cs_uI, sh_uI, gI_uI, gR_uI, eR_uI, eL_uI, bs_uR, cc_uR, cs_uR, sh_uR, gI_uR, gR_uR, eI_uR, eL_uR, bs_uL, cc_uL, cs_uL, sh_uL, gI_uL, gR_uL, eI_uL, eR_uL, gI_s, gI_d, gR_s, gR_d, eI_s, eI_d, eI_e, eR_s, eR_d, eR_e, eL_s, eL_d, bs_bump, cc_bump, cs_bump, sh_bump, gI_bump, gR_bump, eI_bump, eR_bump, eL_bump]; exact b2) (by omega) (fun i hi => by simp (disch := omega) only [bs_pI, cc_pI, cs_pI, sh_pI, gR_pI, eI_pI, eR_pI, eL_pI, bs_pR, cc_pR, cs_pR, sh_pR, gI_pR, eI_pR, eR_pR, eL_pR, bs_uI, cc_uI, cs_uI, sh_uI, gI_uI, gR_uI, eR_uI, eL_uI, bs_uR, cc_uR, cs_uR, sh_uR, gI_uR, gR_uR, eI_uR, eL_uR, bs_uL, cc_uL, cs_uL, sh_uL, gI_uL, gR_uL, eI_uL, eR_uL, gI_s, gI_d, gR_s, gR_d, eI_s, eI_d, eI_e, eR_s, eR_d, eR_e, eL_s, eL_d, bs_bump, cc_bump, cs_bump, sh_bump, gI_bump, gR_bump, eI_bump, eR_bump, eL_bump]; exact b3 i hi) (by simp only [bs_pI, cc_pI, cs_pI, sh_pI, gR_pI, eI_pI, eR_pI, eL_pI, bs_pR, cc_pR, cs_pR, sh_pR, gI_pR, eI_pR, eR_pR, eL_pR, bs_uI, cc_uI, cs_uI, sh_uI, gI_uI, gR_uI, eR_uI, eL_uI, bs_uR, cc_uR, cs_uR, sh_uR, gI_uR, gR_uR, eI_uR, eL_uR, bs_uL, cc_uL, cs_uL, sh_uL, gI_uL, gR_uL, eI_uL, eR_uL, gI_s, gI_d, gR_s, gR_d, eI_s, eI_d, eI_e, eR_s, eR_d, eR_e, eL_s, eL_d, bs_bump, cc_bump, cs_bump, sh_bump, gI_bump, gR_bump, eI_bump, eR_bump, eL_bump]; rfl) (decide_eq_false (fun q => q.1 rfl)) ?_ ?_)
              · unfold inkG; rw [if_pos (Or.inl rfl)]
              · unfold inkF; rw [if_pos rfl]
            · rw [if_neg (show ¬ nI s = (28 : Int32) from fun q => h28 ((nI_eq_iff (b := 28) (by omega) (by omega)).mp q))]
              by_cases h29 : s = 29
              · subst h29
                rw [if_pos (show nI 29 = (29 : Int32) by decide)]
                refine ⟨A + 4, z_708 z0, 8, s_708 z0, in_n hc (by decide), ?_⟩
                intro σ4 e4
                have e4 : σ4 = uI σ1 (A + 4) c (nI 1) := e4
                subst e4
                have f4 : MF scF (inP A c) A σ1 (uI σ1 (A + 4) c (nI 1)) := MF.uI (by unfold inP; omega)
                refine not27 _ (by decide) (fin0 _ g true (f0.tr f4) (by simp only [bs_pI, cc_pI, cs_pI, sh_pI, gR_pI, eI_pI, eR_pI, eL_pI, bs_pR, cc_pR, cs_pR, sh_pR, gI_pR, eI_pR, eR_pR, eL_pR, bs_uI, cc_uI, cs_uI, sh_uI, gI_uI, gR_uI, eR_uI, eL_uI, bs_uR, cc_uR, cs_uR, sh_uR, gI_uR, gR_uR, eI_uR, eL_uR, bs_uL, cc_uL, cs_uL, sh_uL, gI_uL, gR_uL, eI_uL, eR_uL, gI_s, gI_d, gR_s, gR_d, eI_s, eI_d, eI_e, eR_s, eR_d, eR_e, eL_s, eL_d, bs_bump, cc_bump, cs_bump, sh_bump, gI_bump, gR_bump, eI_bump, eR_bump, eL_bump]; exact g0) (by simp (disch := omega) only [bs_pI, cc_pI, cs_pI, sh_pI, gR_pI, eI_pI, eR_pI, eL_pI, bs_pR, cc_pR, cs_pR, sh_pR, gI_pR, eI_pR, eR_pR, eL_pR, bs_uI, cc_uI, cs_uI, sh_uI, gI_uI, gR_uI, eR_uI, eL_uI, bs_uR, cc_uR, cs_uR, sh_uR, gI_uR, gR_uR, eI_uR, eL_uR, bs_uL, cc_uL, cs_uL, sh_uL, gI_uL, gR_uL, eI_uL, eR_uL, gI_s, gI_d, gR_s, gR_d, eI_s, eI_d, eI_e, eR_s, eR_d, eR_e, eL_s, eL_d, bs_bump, cc_bump, cs_bump, sh_bump, gI_bump, gR_bump, eI_bump, eR_bump, eL_bump]; exact b2) (by omega) (fun i hi => by simp (disch := omega) only [bs_pI, cc_pI, cs_pI, sh_pI, gR_pI, eI_pI, eR_pI, eL_pI, bs_pR, cc_pR, cs_pR, sh_pR, gI_pR, eI_pR, eR_pR, eL_pR, bs_uI, cc_uI, cs_uI, sh_uI, gI_uI, gR_uI, eR_uI, eL_uI, bs_uR, cc_uR, cs_uR, sh_uR, gI_uR, gR_uR, eI_uR, eL_uR, bs_uL, cc_uL, cs_uL, sh_uL, gI_uL, gR_uL, eI_uL, eR_uL, gI_s, gI_d, gR_s, gR_d, eI_s, eI_d, eI_e, eR_s, eR_d, eR_e, eL_s, eL_d, bs_bump, cc_bump, cs_bump, sh_bump, gI_bump, gR_bump, eI_bump, eR_bump, eL_bump]; exact b3 i hi) (by simp only [bs_pI, cc_pI, cs_pI, sh_pI, gR_pI, eI_pI, eR_pI, eL_pI, bs_pR, cc_pR, cs_pR, sh_pR, gI_pR, eI_pR, eR_pR, eL_pR, bs_uI, cc_uI, cs_uI, sh_uI, gI_uI, gR_uI, eR_uI, eL_uI, bs_uR, cc_uR, cs_uR, sh_uR, gI_uR, gR_uR, eI_uR, eL_uR, bs_uL, cc_uL, cs_uL, sh_uL, gI_uL, gR_uL, eI_uL, eR_uL, gI_s, gI_d, gR_s, gR_d, eI_s, eI_d, eI_e, eR_s, eR_d, eR_e, eL_s, eL_d, bs_bump, cc_bump, cs_bump, sh_bump, gI_bump, gR_bump, eI_bump, eR_bump, eL_bump]; rfl) (decide_eq_false (fun q => q.2.1 rfl)) ?_ ?_)
                · unfold inkG; rw [if_pos (Or.inr (Or.inl rfl))]
                · unfold inkF; rw [if_neg (by decide), if_pos rfl]
              · rw [if_neg (show ¬ nI s = (29 : Int32) from fun q => h29 ((nI_eq_iff (b := 29) (by omega) (by omega)).mp q))]
                by_cases h26' : 26 ≤ s
                · rw [if_pos (show (26 : Int32) ≤ nI s from (nI_le_iff (a := 26) (by decide) (by omega)).mpr h26')]
                  refine e_Mod_sign_134 A _ _ ?_
                  rw [if_pos (show (20 : Int32) < nI s from (nI_lt_iff (a := 20) (by decide) (by omega)).mpr (by omega))]
                  refine noadd h27 h28 h29 ?_
                  unfold chr
                  rw [if_neg h26, if_neg h27]
                  cases fg with
                  | true => rw [if_pos rfl, if_neg (by omega)]
                  | false => rw [if_neg (by decide), if_neg (by omega)]
                · rw [if_neg (show ¬ (26 : Int32) ≤ nI s from fun q => h26' ((nI_le_iff (a := 26) (by decide) (by omega)).mp q))]
                  refine ⟨A + 4, z_708 z0, 8, s_708 z0, in_n hc (by decide), ?_⟩
                  rw [b4]
                  cases fg with
                  | false =>
                    rw [if_pos (by decide)]
                    have e65 : ((65 + nI s).toUInt32 % 65536).toInt32 = nI (65 + s) := by simp (disch := omega) only [l_0, l_1, l_2, l_3, l_4, l_5, l_6, l_7, l_8, l_9, l_10, l_11, l_12, l_13, l_14, l_15, l_16, l_17, l_18, l_19, l_20, l_21, l_22, l_23, l_24, l_25, l_26, l_27, l_28, l_29, l_30, l_31, l_32, l_33, l_34, l_35, l_36, l_37, l_38, l_39, l_40, l_41, l_42, l_43, l_44, l_45, l_46, l_47, l_48, l_49, l_50, l_51, l_52, l_53, l_54, l_55, l_56, l_57, l_58, l_59, l_60, l_61, l_62, l_63, l_64, l_65, l_66, l_67, l_68, l_69, l_70, l_71, l_72, l_73, l_74, l_75, l_76, l_77, l_78, l_79, l_80, l_81, l_82, l_83, l_84, l_85, l_86, l_87, l_88, l_89, l_90, l_91, l_92, l_93, l_94, l_95, l_96, l_97, l_98, l_99, l_100, l_101, l_102, l_103, l_104, l_105, l_106, l_107, l_108, l_109, l_110, l_111, l_112, l_113, l_114, l_115, l_116, l_117, l_118, l_119, l_120, l_121, l_122, l_123, l_124, l_125, l_126, l_127, l_128, l_129, l_130, l_256, l_512, l_676, l_704, l_999, l_1000, l_4096, l_17576, l_32768, l_65535, l_456975, l_456976, l_m1, l_m2, add_n, i2c_n]
                    rw [e65]
                    exact addl (65 + s) (by omega) h27 h28 h29 (by unfold chr; rw [if_neg h26, if_neg h27, if_neg (by decide), if_pos (by omega)]) (by omega) (by omega)
                  | true =>
                    rw [if_neg (by decide)]
                    refine e_Mod_sign_134 A _ _ ?_
                    by_cases h20 : 20 < s
                    · rw [if_pos (show (20 : Int32) < nI s from (nI_lt_iff (a := 20) (by decide) (by omega)).mpr h20)]
                      refine noadd h27 h28 h29 ?_
                      unfold chr
                      rw [if_neg h26, if_neg h27, if_pos rfl, if_neg (by omega)]
                    · rw [if_neg (show ¬ (20 : Int32) < nI s from fun q => h20 ((nI_lt_iff (a := 20) (by decide) (by omega)).mp q))]
                      refine c_figure (by omega) ?_
                      simp only [kI_i]
                      have h10 := figL_10 s (by omega)
                      exact ⟨z0.1, addl _ (figL_lt s (by omega)).1 h27 h28 h29 (by unfold chr; rw [if_neg h26, if_neg h27, if_pos rfl, if_pos (by omega)]) h10.2 h10.1⟩
    · simp only [kI_i]
      rw [if_pos (by decide)]
      exact bad (Or.inr q)
  · simp only [kI_i]
    rw [if_pos (by decide)]
    exact bad (Or.inl q)
end ModA
