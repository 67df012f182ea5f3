/-! ===== the reference: look ===== -/
def lkF (f : Nat) : Prop := f = 753
def lkP (A a _j : Nat) : Prop := a = A + 38 ∨ a = A + 41
/-- the channels reached -/
def RH (σ : PH) (A : Nat) (Q : Nat → Prop) : Prop := ∀ c, c < 8 → eI σ (A + 38) c = nI (pN (Q c))
/-- which channels are closed -/
def CL (σ : PH) (A : Nat) (S : SP) : Prop := ∀ c, c < 8 → eI σ (A + 1) c = nI (!sOp (S.1 c)).toNat
theorem lost_un {S : SP} {ks : List Nat} : Lost S ks ↔ ∃ k ∈ ks, Lost S [k] := by
  have := rc_un (R := S.2.2.2) (S := Sd S.2.2.2 ks) (ι := { k // k ∈ ks }) (T := fun x => Sd S.2.2.2 [x.1]) (fun j => ⟨fun ⟨k, q1, q2⟩ => ⟨⟨k, q1⟩, k, List.mem_singleton.mpr rfl, q2⟩, fun ⟨⟨k, q1⟩, k', q2, q3⟩ => ⟨k, q1, by rw [List.mem_singleton.mp q2] at q3; exact q3⟩⟩) 12 12
  unfold Lost
  rw [this]
  exact ⟨fun ⟨⟨k, q1⟩, q2⟩ => ⟨k, q1, q2⟩, fun ⟨k, q1, q2⟩ => ⟨⟨k, q1⟩, q2⟩⟩
theorem rd_un {S : SP} {ks : List Nat} {c : Nat} : Rd S ks c ↔ ∃ k ∈ ks, Rd S [k] c := by
  have := fun j => rc_un (R := S.2.2.2) (S := Sd S.2.2.2 ks) (ι := { k // k ∈ ks }) (T := fun x => Sd S.2.2.2 [x.1]) (fun j => ⟨fun ⟨k, q1, q2⟩ => ⟨⟨k, q1⟩, k, List.mem_singleton.mpr rfl, q2⟩, fun ⟨⟨k, q1⟩, k', q2, q3⟩ => ⟨k, q1, by rw [List.mem_singleton.mp q2] at q3; exact q3⟩⟩) 12 j
  unfold Rd
  constructor
  · rintro ⟨i, h1, h2, h3, h4⟩
    obtain ⟨⟨k, hk⟩, h5⟩ := (this i).mp h2
    exact ⟨k, hk, i, h1, h5, h3, h4⟩
  · rintro ⟨k, hk, i, h1, h2, h3, h4⟩
    exact ⟨i, h1, (this i).mpr ⟨⟨k, hk⟩, h2⟩, h3, h4⟩
section Mod8
variable {d : Nat} {σ : PH} {K : PO → PH → Prop} {A : Nat} {S : SP}
theorem CL.mf {σ' : PH} {F : Nat → Prop} (h : CL σ A S) (hf : MF F (lkP A) A σ σ') : CL σ' A S := fun c hc => by rw [hf.eI (by unfold lkP; omega)]; exact h c hc
theorem RH.mf {σ' : PH} {F : Nat → Prop} {P : Nat → Nat → Prop} {Q : Nat → Prop} (h : RH σ A Q) (hf : MF F P A σ σ') (hP : ∀ j, ¬ P (A + 38) j) : RH σ' A Q := fun c hc => by rw [hf.eI (hP c)]; exact h c hc
theorem MR.cl (h : MR σ A S) : CL σ A S := fun c hc => (h.2.1 c hc).1
theorem c_reach {x y : Nat} {Q : Nat → Prop} (hz : MZ σ A) (hcl : CL σ A S) (hx : x < 8) (hy : y < 8) (hq : RH σ A Q) (hk : ∀ σ', RH σ' A (fun c => Q c ∨ (if sOp (S.1 x) = false ∧ sOp (S.1 y) = true then y else x) = c) → MF noF (fun a _ => a = A + 38) A σ σ' → K (.inl none) σ') : PW d M_Mod_reach 0 [.ref A, .int (nI x), .int (nI y), uu] [] σ K := by
  have fin : ∀ (b : Bool), (b = true ↔ sOp (S.1 x) = false ∧ sOp (S.1 y) = true) → PW d M_Mod_reach 23 [.ref A, .int (nI x), .int (nI y), uu] [.int (nI b.toNat)] σ K := by
    intro b hb
    refine e_Mod_reach_23 A _ _ _ ⟨hz.1, A + 38, z_752 hz, ?_⟩
    have key : ∀ w, w < 8 → w = (if sOp (S.1 x) = false ∧ sOp (S.1 y) = true then y else x) → K (.inl none) (uI σ (A + 38) w (nI 1)) := by
      intro w hw e
      refine hk _ (fun c hc => ?_) (MF.uI rfl)
      by_cases hcw : c = w
      · rw [hcw]
        simp only [bs_pI, cc_pI, cs_pI, sh_pI, gR_pI, eI_pI, eR_pI, eL_pI, bs_pR, cc_pR, cs_pR, sh_pR, gI_pR, eI_pR, eR_pR, eL_pR, bs_uI, cc_uI, cs_uI, sh_uI, gI_uI, gR_uI, eR_uI, eL_uI, bs_uR, cc_uR, cs_uR, sh_uR, gI_uR, gR_uR, eI_uR, eL_uR, bs_uL, cc_uL, cs_uL, sh_uL, gI_uL, gR_uL, eI_uL, eR_uL, gI_s, gI_d, gR_s, gR_d, eI_s, eI_d, eI_e, eR_s, eR_d, eR_e, eL_s, eL_d, bs_bump, cc_bump, cs_bump, sh_bump, gI_bump, gR_bump, eI_bump, eR_bump, eL_bump]
        rw [pN_t (Or.inr e.symm)]
      · simp (disch := omega) only [bs_pI, cc_pI, cs_pI, sh_pI, gR_pI, eI_pI, eR_pI, eL_pI, bs_pR, cc_pR, cs_pR, sh_pR, gI_pR, eI_pR, eR_pR, eL_pR, bs_uI, cc_uI, cs_uI, sh_uI, gI_uI, gR_uI, eR_uI, eL_uI, bs_uR, cc_uR, cs_uR, sh_uR, gI_uR, gR_uR, eI_uR, eL_uR, bs_uL, cc_uL, cs_uL, sh_uL, gI_uL, gR_uL, eI_uL, eR_uL, gI_s, gI_d, gR_s, gR_d, eI_s, eI_d, eI_e, eR_s, eR_d, eR_e, eL_s, eL_d, bs_bump, cc_bump, cs_bump, sh_bump, gI_bump, gR_bump, eI_bump, eR_bump, eL_bump]
        rw [hq c hc]
        congr 2
        exact propext ⟨Or.inl, fun q => by rcases q with q | q; exact q; exact absurd (by rw [e]; exact q.symm) hcw⟩
    cases b with
    | false =>
      rw [if_pos (by decide)]
      have hn : ¬ (sOp (S.1 x) = false ∧ sOp (S.1 y) = true) := fun q => absurd (hb.mpr q) (by decide)
      refine ⟨8, s_752 hz, in_n hx (by decide), ?_⟩
      rw [ix_n (by omega)]
      intro σ1 e1
      rw [e1]
      exact key x hx (by rw [if_neg hn])
    | true =>
      rw [if_neg (by decide)]
      have hn := hb.mp rfl
      refine ⟨8, s_752 hz, in_n hy (by decide), ?_⟩
      rw [ix_n (by omega)]
      intro σ1 e1
      rw [e1]
      exact key y hy (by rw [if_pos hn])
  refine e_Mod_reach_0 A _ _ ⟨hz.1, A + 1, z_705 hz, 8, s_705 hz, in_n hx (by decide), ?_⟩
  rw [ix_n (by omega), ix_n (by omega), hcl x hx, hcl y hy]
  cases hx1 : sOp (S.1 x) with
  | true =>
    rw [if_pos (by decide)]
    exact e_Mod_reach_22 A _ _ (fin false ⟨fun q => absurd q (by decide), fun q => by rw [hx1] at q; exact absurd q.1 (by decide)⟩)
  | false =>
    rw [if_neg (by decide)]
    refine ⟨in_n hy (by decide), ?_⟩
    cases hy1 : sOp (S.1 y) with
    | true =>
      rw [if_pos (by decide)]
      exact fin true ⟨fun _ => ⟨hx1, hy1⟩, fun _ => rfl⟩
    | false =>
      rw [if_neg (by decide)]
      exact e_Mod_reach_22 A _ _ (fin false ⟨fun q => absurd q (by decide), fun q => by rw [hy1] at q; exact absurd q.2 (by decide)⟩)
theorem look_rows {f : Nat} {σ0 : PH} {Q : Nat → Prop} {X : Nat → Bool} {b : Bool} (hb : Rb S.2.2.2) (hR : S.2.2.2.length ≤ 12) (hX : ∀ j, X j = true ↔ j < S.2.2.2.length ∧ Rc S.2.2.2 (Sd S.2.2.2 [f]) 12 j) (hk : ∀ σ', gI σ' 753 A = nI b.toNat → RH σ' A (fun c => Q c ∨ Rd S [f] c) → MF lkF (lkP A) A σ0 σ' → K (.inl none) σ') : ∀ (n k : Nat) (σ : PH), k + n = S.2.2.2.length → MZ σ A → MO σ A S.2.2.2 → CL σ A S → SX σ A X → gI σ 753 A = nI b.toNat → RH σ A (fun c => Q c ∨ ∃ i, i < k ∧ X i = true ∧ (S.2.2.2.getD i r0).2.2.2 = [] ∧ chOf S (S.2.2.2.getD i r0) = c) → MF lkF (lkP A) A σ0 σ → PW (d + 1) M_Mod_lookFrom 158 [.ref A, uu, .int (nI k), uu, uu, uu] [] σ K := by
  intro n
  induction n with
  | zero =>
    intro k σ hm hz ho hcl hs h53 hq hf0
    refine e_Mod_lookFrom_158 A _ ⟨hz.1, ?_⟩
    rw [ho.1, if_pos ((nI_le_iff (by omega) (by omega)).mpr (by omega))]
    refine hk σ h53 (fun c hc => ?_) hf0
    rw [hq c hc]
    congr 2
    refine propext (or_congr Iff.rfl ?_)
    constructor
    · rintro ⟨i, q1, q2, q3, q4⟩
      exact ⟨i, ((hX i).mp q2).1, ((hX i).mp q2).2, q3, q4⟩
    · rintro ⟨i, q1, q2, q3, q4⟩
      exact ⟨i, by omega, (hX i).mpr ⟨q1, q2⟩, q3, q4⟩
  | succ n ih =>
    intro k σ hm hz ho hcl hs h53 hq hf0
    have o2 := ho.2.1
    obtain ⟨p1, p2, p3, p4, p5, p6⟩ := ho.2.2 k (by omega)
    obtain ⟨r1, r2, r3, r4, r5⟩ := hb k (by omega)
    have stay : ¬ (X k = true ∧ (S.2.2.2.getD k r0).2.2.2 = []) → PW (d + 1) M_Mod_lookFrom 201 [.ref A, uu, .int (nI k), uu, uu, uu] [] σ K := by
      intro hno
      refine e_Mod_lookFrom_201 A _ ?_
      rw [nI_1]
      refine ih (k + 1) σ (by omega) hz ho hcl hs h53 (fun c hc => ?_) hf0
      rw [hq c hc]
      congr 2
      refine propext (or_congr Iff.rfl ?_)
      constructor
      · rintro ⟨i, q1, q2⟩; exact ⟨i, by omega, q2⟩
      · rintro ⟨i, q1, q2, q3, q4⟩
        by_cases hik : i = k
        · subst hik; exact absurd ⟨q2, q3⟩ hno
        · exact ⟨i, by omega, q2, q3, q4⟩
    refine e_Mod_lookFrom_158 A _ ⟨hz.1, ?_⟩
    rw [ho.1, if_neg (fun q => by have := (nI_le_iff (by omega) (by omega)).mp q; omega)]
    refine ⟨A + 41, z_758 hz, 12, s_758 hz, in_n (by omega) (by decide), ?_⟩
    rw [ix_n (by omega), hs k (by omega)]
    cases hXk : X k with
    | false => rw [if_pos (by decide)]; exact stay (fun q => by rw [hXk] at q; exact absurd q.1 (by decide))
    | true =>
      rw [if_neg (by decide)]
      refine ⟨A + 9, z_714 hz, 12, s_714 hz, in_n (by omega) (by decide), ?_⟩
      rw [p2]
      by_cases hg : (S.2.2.2.getD k r0).2.2.2 = []
      · rw [if_pos hg, if_pos (show nI 1 = (1 : Int32) by decide)]
        obtain ⟨p31, p32⟩ := p3 hg
        refine ⟨A + 10, z_715 hz, 12, s_715 hz, in_n (by omega) (by decide), A + 11, z_716 hz, 12, s_716 hz, in_n (by omega) (by decide), ?_⟩
        rw [p31, p32]
        refine c_reach hz hcl r2 r3 hq (fun σ1 hq1 f1 => ?_)
        simp only [kV_v]
        have f2 : MF lkF (lkP A) A σ σ1 := f1.mo (fun f q => q.elim) (fun a j q => Or.inl q)
        refine e_Mod_lookFrom_201 A _ ?_
        rw [nI_1]
        refine ih (k + 1) σ1 (by omega) (f2.z hz) (ho.mf f2 (by unfold lkF; omega) (fun k j k1 k2 q => by unfold lkP at q; omega)) (hcl.mf f2) (fun j hj => by rw [f1.eI (by omega)]; exact hs j hj) (by rw [f1.gI id]; exact h53) (fun c hc => ?_) (hf0.tr f2)
        rw [hq1 c hc]
        congr 2
        have ech : (if sOp (S.1 (S.2.2.2.getD k r0).2.1) = false ∧ sOp (S.1 (S.2.2.2.getD k r0).2.2.1) = true then (S.2.2.2.getD k r0).2.2.1 else (S.2.2.2.getD k r0).2.1) = chOf S (S.2.2.2.getD k r0) := rfl
        rw [ech]
        refine propext ?_
        constructor
        · rintro ((q | ⟨i, q1, q2⟩) | q)
          · exact Or.inl q
          · exact Or.inr ⟨i, by omega, q2⟩
          · exact Or.inr ⟨k, by omega, hXk, hg, q⟩
        · rintro (q | ⟨i, q1, q2, q3, q4⟩)
          · exact Or.inl (Or.inl q)
          · by_cases hik : i = k
            · subst hik; exact Or.inr q4
            · exact Or.inl (Or.inr ⟨i, by omega, q2, q3, q4⟩)
      · rw [if_neg hg, if_neg (by decide)]
        exact stay (fun q => hg q.2)
theorem look_in {f t k : Nat} {R : List RO} {B0 : Prop} {σ0 : PH} (hu : Uq R) (hb : Rb R) (hR : R.length ≤ 12) (hf : bj R f < R.length) (hkl : k < R.length) (ht : t < 12) (hk : ∀ σ' X (b : Bool), MZ σ' A → MO σ' A R → SX σ' A X → gI σ' 753 A = nI b.toNat → TI R (Sd R [f]) (fun x => bj R x = 12) B0 (B0 ∨ Rc R (Sd R [f]) 12 12) t (k + 1) 0 X b → MF lkF (seP A) A σ0 σ' → PW (d + 1) M_Mod_lookFrom 56 [.ref A, uu, .int (nI t), .int (nI (k + 1)), uu, uu] [] σ' K) : ∀ (n m : Nat) (σ : PH) (X : Nat → Bool) (b : Bool), m + n = (R.getD k r0).2.2.2.length → MZ σ A → MO σ A R → SX σ A X → gI σ 753 A = nI b.toNat → TI R (Sd R [f]) (fun x => bj R x = 12) B0 (B0 ∨ Rc R (Sd R [f]) 12 12) t k m X b → MF lkF (seP A) A σ0 σ → PW (d + 1) M_Mod_lookFrom 67 [.ref A, uu, .int (nI t), .int (nI k), .int (nI m), uu] [] σ K := by
  have hG : ∀ i x, i < R.length → Rc R (Sd R [f]) 11 i → x ∈ (R.getD i r0).2.2.2 → bj R x = 12 → (B0 ∨ Rc R (Sd R [f]) 12 12) := fun i x h1 h2 h3 h4 => Or.inr (Or.inr ⟨i, h2, h1, x, h3, h4⟩)
  intro n
  induction n with
  | zero =>
    intro m σ X b hm hz ho hs h53 hT hf0
    obtain ⟨o1, o2, o3⟩ := ho
    obtain ⟨p1, p2, p3, p4, p5, p6⟩ := o3 k hkl
    have nx : PW (d + 1) M_Mod_lookFrom 144 [.ref A, uu, .int (nI t), .int (nI k), uu, uu] [] σ K := by
      refine e_Mod_lookFrom_144 A _ _ ?_
      rw [nI_1]
      exact hk σ X b hz ⟨o1, o2, o3⟩ hs h53 (hT.row hkl (Or.inr (by omega))) hf0
    refine e_Mod_lookFrom_67 A _ _ _ ⟨hz.1, A + 41, z_758 hz, 12, s_758 hz, in_n (by omega) (by decide), ?_⟩
    rw [ix_n (by omega), hs k (by omega)]
    by_cases hX : nI (X k).toNat = 0
    · rw [if_pos hX]; exact nx
    · rw [if_neg hX]
      refine ⟨A + 12, z_717 hz, 12, s_717 hz, in_n (by omega) (by decide), ?_⟩
      rw [p4, if_pos ((nI_le_iff (by omega) (by omega)).mpr (by omega))]
      exact nx
  | succ n ih =>
    intro m σ X b hm hz ho hs h53 hT hf0
    have ho0 := ho
    obtain ⟨o1, o2, o3⟩ := ho
    obtain ⟨p1, p2, p3, p4, p5, p6⟩ := o3 k hkl
    refine e_Mod_lookFrom_67 A _ _ _ ⟨hz.1, A + 41, z_758 hz, 12, s_758 hz, in_n (by omega) (by decide), ?_⟩
    rw [ix_n (by omega), hs k (by omega)]
    cases hX : X k with
    | false =>
      rw [if_pos (by decide)]
      refine e_Mod_lookFrom_144 A _ _ ?_
      rw [nI_1]
      exact hk σ X b hz ho0 hs h53 (hT.row hkl (Or.inl hX)) hf0
    | true =>
      rw [if_neg (by decide)]
      refine ⟨A + 12, z_717 hz, 12, s_717 hz, in_n (by omega) (by decide), ?_⟩
      rw [p4, if_neg (fun q => by have := (nI_le_iff (by omega) (by omega)).mp q; omega)]
      have hlt := (hb k hkl).2.2.2.2 _ (getD_mem (show m < (R.getD k r0).2.2.2.length by omega))
      have e718 : ((4 : Int32) * nI k + nI m) = nI (4 * k + m) := by simp only [l_0, l_1, l_2, l_3, l_4, l_5, l_6, l_7, l_8, l_9, l_10, l_11, l_12, l_13, l_14, l_15, l_16, l_17, l_18, l_19, l_20, l_21, l_22, l_23, l_24, l_25, l_26, l_27, l_28, l_29, l_30, l_31, l_32, l_33, l_34, l_35, l_36, l_37, l_38, l_39, l_40, l_41, l_42, l_43, l_44, l_45, l_46, l_47, l_48, l_49, l_50, l_51, l_52, l_53, l_54, l_55, l_56, l_57, l_58, l_59, l_60, l_61, l_62, l_63, l_64, l_65, l_66, l_67, l_68, l_69, l_70, l_71, l_72, l_73, l_74, l_75, l_76, l_77, l_78, l_79, l_80, l_81, l_82, l_83, l_84, l_85, l_86, l_87, l_88, l_89, l_90, l_91, l_92, l_93, l_94, l_95, l_96, l_97, l_98, l_99, l_100, l_101, l_102, l_103, l_104, l_105, l_106, l_107, l_108, l_109, l_110, l_111, l_112, l_113, l_114, l_115, l_116, l_117, l_118, l_119, l_120, l_121, l_122, l_123, l_124, l_125, l_126, l_127, l_128, l_129, l_130, l_256, l_512, l_676, l_704, l_999, l_1000, l_4096, l_17576, l_32768, l_65535, l_456975, l_456976, l_m1, l_m2, mul_n, add_n]
      rw [e718]
      refine ⟨A + 13, z_718 hz, 48, s_718 hz, in_n (by omega) (by decide), ?_⟩
      rw [ix_n (by omega), p6 m (by omega)]
      refine c_routeAt hz ho0 hu hb hlt ?_
      simp only [kI_i]
      refine ⟨hz.1, ?_⟩
      rw [h53]
      have go : ∀ b' : Bool, (b' = true ↔ b = true ∨ bj R ((R.getD k r0).2.2.2.getD m 0) = 12) → PW (d + 1) M_Mod_lookFrom 122 [.ref A, uu, .int (nI t), .int (nI k), .int (nI m), .int (if rix R ((R.getD k r0).2.2.2.getD m 0) < R.length then nI (rix R ((R.getD k r0).2.2.2.getD m 0)) else m1)] [.int (nI b'.toNat), .ref A] σ K := by
        intro b' hb'
        have f1 : MF lkF (seP A) A σ (pI σ 753 A (nI b'.toNat)) := MF.pI rfl
        have z1 := f1.z hz
        have o1' : MO (pI σ 753 A (nI b'.toNat)) A R := ho0.mf f1 (by unfold lkF; omega) (fun k j k1 k2 q => by unfold seP at q; omega)
        refine e_Mod_lookFrom_122 A _ _ _ _ _ _ ⟨hz.1, nI_bo, fun σ1 e1 => ?_⟩
        by_cases hr : rix R ((R.getD k r0).2.2.2.getD m 0) < R.length
        · have hbj : bj R ((R.getD k r0).2.2.2.getD m 0) = rix R ((R.getD k r0).2.2.2.getD m 0) := by unfold bj; rw [if_pos hr]
          rw [if_pos hr, if_neg (nI_lt0 (by omega))]
          subst e1
          refine ⟨z1.1, A + 41, z_758 z1, 12, s_758 z1, in_n (by omega) (by decide), ?_⟩
          rw [ix_n (by omega)]
          have f2 : MF lkF (seP A) A (pI σ 753 A (nI b'.toNat)) (uI (pI σ 753 A (nI b'.toNat)) (A + 41) (rix R ((R.getD k r0).2.2.2.getD m 0)) (nI 1)) := MF.uI rfl
          intro σ3 e3
          have e3' : σ3 = uI (pI σ 753 A (nI b'.toNat)) (A + 41) (rix R ((R.getD k r0).2.2.2.getD m 0)) (nI 1) := e3
          subst e3'
          refine e_Mod_lookFrom_138 A _ _ _ ?_
          rw [nI_1]
          have s1 : SX (pI σ 753 A (nI b'.toNat)) A X := fun j hj => hs j hj
          refine ih (m + 1) _ (fun j => if j = rix R ((R.getD k r0).2.2.2.getD m 0) then true else X j) b' (by omega) (f2.z z1) (o1'.mf f2 (by unfold lkF; omega) (fun k j k1 k2 q => by unfold seP at q; omega)) s1.set (by simp only [bs_pI, cc_pI, cs_pI, sh_pI, gR_pI, eI_pI, eR_pI, eL_pI, bs_pR, cc_pR, cs_pR, sh_pR, gI_pR, eI_pR, eR_pR, eL_pR, bs_uI, cc_uI, cs_uI, sh_uI, gI_uI, gR_uI, eR_uI, eL_uI, bs_uR, cc_uR, cs_uR, sh_uR, gI_uR, gR_uR, eI_uR, eL_uR, bs_uL, cc_uL, cs_uL, sh_uL, gI_uL, gR_uL, eI_uL, eR_uL, gI_s, gI_d, gR_s, gR_d, eI_s, eI_d, eI_e, eR_s, eR_d, eR_e, eL_s, eL_d, bs_bump, cc_bump, cs_bump, sh_bump, gI_bump, gR_bump, eI_bump, eR_bump, eL_bump]) (hT.step hR (sd_row hf) hG hX (by omega) (fun j => ?_) hb') (hf0.tr (f1.tr f2))
          by_cases hj : j = rix R ((R.getD k r0).2.2.2.getD m 0)
          · rw [if_pos hj]; exact ⟨fun _ => Or.inr ⟨by rw [hbj]; exact hj, by omega⟩, fun _ => rfl⟩
          · rw [if_neg hj]; exact ⟨fun q => Or.inl q, fun q => by rcases q with q | q; exact q; rw [hbj] at q; exact absurd q.1 hj⟩
        · have hbj : bj R ((R.getD k r0).2.2.2.getD m 0) = 12 := by unfold bj; rw [if_neg hr]
          rw [if_neg hr, if_pos (by decide)]
          subst e1
          refine e_Mod_lookFrom_138 A _ _ _ ?_
          rw [nI_1]
          refine ih (m + 1) _ X b' (by omega) z1 o1' (fun j hj => hs j hj) (by simp only [bs_pI, cc_pI, cs_pI, sh_pI, gR_pI, eI_pI, eR_pI, eL_pI, bs_pR, cc_pR, cs_pR, sh_pR, gI_pR, eI_pR, eR_pR, eL_pR, bs_uI, cc_uI, cs_uI, sh_uI, gI_uI, gR_uI, eR_uI, eL_uI, bs_uR, cc_uR, cs_uR, sh_uR, gI_uR, gR_uR, eI_uR, eL_uR, bs_uL, cc_uL, cs_uL, sh_uL, gI_uL, gR_uL, eI_uL, eR_uL, gI_s, gI_d, gR_s, gR_d, eI_s, eI_d, eI_e, eR_s, eR_d, eR_e, eL_s, eL_d, bs_bump, cc_bump, cs_bump, sh_bump, gI_bump, gR_bump, eI_bump, eR_bump, eL_bump]) (hT.step hR (sd_row hf) hG hX (by omega) (fun j => ?_) hb') (hf0.tr f1)
          rw [hbj]
          exact ⟨fun q => Or.inl q, fun q => by rcases q with q | q; exact q; omega⟩
      cases b with
      | true => rw [if_neg (by decide)]; exact e_Mod_lookFrom_117 A _ _ _ _ _ (go true ⟨fun _ => Or.inl rfl, fun _ => rfl⟩)
      | false =>
        rw [if_pos (by decide)]
        by_cases hr : rix R ((R.getD k r0).2.2.2.getD m 0) < R.length
        · have hbj : ¬ bj R ((R.getD k r0).2.2.2.getD m 0) = 12 := by unfold bj; rw [if_pos hr]; omega
          rw [if_pos hr] at go ⊢
          rw [if_pos (show (0 : Int32) ≤ nI (rix R ((R.getD k r0).2.2.2.getD m 0)) from (nI_le_iff (a := 0) (by decide) (by omega)).mpr (by omega))]
          exact go false ⟨fun q => absurd q (by decide), fun q => by rcases q with q | q; exact absurd q (by decide); exact absurd q hbj⟩
        · have hbj : bj R ((R.getD k r0).2.2.2.getD m 0) = 12 := by unfold bj; rw [if_neg hr]
          rw [if_neg hr] at go ⊢
          rw [if_neg (by decide)]
          exact e_Mod_lookFrom_117 A _ _ _ _ _ (go true ⟨fun _ => Or.inr hbj, fun _ => rfl⟩)
theorem look_krows {f t : Nat} {R : List RO} {B0 : Prop} {σ0 : PH} (hu : Uq R) (hb : Rb R) (hR : R.length ≤ 12) (hf : bj R f < R.length) (ht : t < 12) (hk : ∀ σ' X (b : Bool), MZ σ' A → MO σ' A R → SX σ' A X → gI σ' 753 A = nI b.toNat → TI R (Sd R [f]) (fun x => bj R x = 12) B0 (B0 ∨ Rc R (Sd R [f]) 12 12) (t + 1) 0 0 X b → MF lkF (seP A) A σ0 σ' → PW (d + 1) M_Mod_lookFrom 48 [.ref A, uu, .int (nI (t + 1)), uu, uu, uu] [] σ' K) : ∀ (n k : Nat) (σ : PH) (X : Nat → Bool) (b : Bool), k + n = R.length → MZ σ A → MO σ A R → SX σ A X → gI σ 753 A = nI b.toNat → TI R (Sd R [f]) (fun x => bj R x = 12) B0 (B0 ∨ Rc R (Sd R [f]) 12 12) t k 0 X b → MF lkF (seP A) A σ0 σ → PW (d + 1) M_Mod_lookFrom 56 [.ref A, uu, .int (nI t), .int (nI k), uu, uu] [] σ K := by
  intro n
  induction n with
  | zero =>
    intro k σ X b hm hz ho hs h53 hT hf0
    refine e_Mod_lookFrom_56 A _ _ ⟨hz.1, ?_⟩
    rw [ho.1, if_pos ((nI_le_iff (by omega) (by omega)).mpr (by omega)), nI_1]
    rw [show k = R.length by omega] at hT
    exact hk σ X b hz ho hs h53 hT.turn hf0
  | succ n ih =>
    intro k σ X b hm hz ho hs h53 hT hf0
    refine e_Mod_lookFrom_56 A _ _ ⟨hz.1, ?_⟩
    rw [ho.1, if_neg (fun q => by have := (nI_le_iff (by omega) (by omega)).mp q; omega)]
    exact look_in (σ0 := σ0) hu hb hR hf (by omega) ht (fun σ' X' b' z1 o1 s1 g1 t1 f1 => ih (k + 1) σ' X' b' (by omega) z1 o1 s1 g1 t1 f1) _ 0 σ X b (Nat.zero_add _) hz ho hs h53 hT hf0
theorem look_turns {f : Nat} {R : List RO} {B0 : Prop} {σ0 : PH} (hu : Uq R) (hb : Rb R) (hR : R.length ≤ 12) (hf : bj R f < R.length) (hk : ∀ σ' X (b : Bool), MZ σ' A → MO σ' A R → SX σ' A X → gI σ' 753 A = nI b.toNat → (∀ j, X j = true ↔ j < R.length ∧ Rc R (Sd R [f]) 12 j) → (b = true ↔ B0 ∨ Rc R (Sd R [f]) 12 12) → MF lkF (seP A) A σ0 σ' → PW (d + 1) M_Mod_lookFrom 158 [.ref A, uu, .int (nI 0), uu, uu, uu] [] σ' K) : ∀ (n t : Nat) (σ : PH) (X : Nat → Bool) (b : Bool), t + n = 12 → MZ σ A → MO σ A R → SX σ A X → gI σ 753 A = nI b.toNat → TI R (Sd R [f]) (fun x => bj R x = 12) B0 (B0 ∨ Rc R (Sd R [f]) 12 12) t 0 0 X b → MF lkF (seP A) A σ0 σ → PW (d + 1) M_Mod_lookFrom 48 [.ref A, uu, .int (nI t), uu, uu, uu] [] σ K := by
  intro n
  induction n with
  | zero =>
    intro t σ X b hm hz ho hs h53 hT hf0
    refine e_Mod_lookFrom_48 A _ ?_
    have ht : t = 12 := by omega
    subst ht
    rw [if_pos (by decide)]
    obtain ⟨h1, h2⟩ := hT.fin hR (sd_row hf) (fun q => by
      rcases q with q | q
      · exact Or.inl q
      · exact Or.inr (rc_sink hR hf 12 q))
    exact hk σ X b hz ho hs h53 h1 h2 hf0
  | succ n ih =>
    intro t σ X b hm hz ho hs h53 hT hf0
    refine e_Mod_lookFrom_48 A _ ?_
    rw [if_neg (show ¬ (12 : Int32) ≤ nI t from fun q => by have := (nI_le_iff (a := 12) (by decide) (by omega)).mp q; omega)]
    exact look_krows (σ0 := σ0) hu hb hR hf (by omega) (fun σ' X' b' z1 o1 s1 g1 t1 f1 => ih (t + 1) σ' X' b' (by omega) z1 o1 s1 g1 t1 f1) R.length 0 σ X b (by omega) hz ho hs h53 hT hf0
theorem c_lookFrom {f : Nat} {b0 : Bool} {Q : Nat → Prop} (hz : MZ σ A) (ho : MO σ A S.2.2.2) (hcl : CL σ A S) (hu : Uq S.2.2.2) (hb : Rb S.2.2.2) (hfl : f < 456976) (h53 : gI σ 753 A = nI b0.toNat) (hq : RH σ A Q) (hk : ∀ σ' (b : Bool), (b = true ↔ b0 = true ∨ Lost S [f]) → gI σ' 753 A = nI b.toNat → RH σ' A (fun c => Q c ∨ Rd S [f] c) → MF lkF (lkP A) A σ σ' → K (.inl none) σ') : PW (d + 1) M_Mod_lookFrom 0 [.ref A, .int (nI f), uu, uu, uu, uu] [] σ K := by
  have hR := ho.2.1
  have loop : ∀ (n k : Nat) (σ1 : PH), k + n = 12 → MZ σ1 A → MO σ1 A S.2.2.2 → gI σ1 753 A = nI b0.toNat → (∀ j, j < k → eI σ1 (A + 41) j = nI 0) → MF lkF (seP A) A σ σ1 → PW (d + 1) M_Mod_lookFrom 2 [.ref A, .int (nI f), .int (nI k), uu, uu, uu] [] σ1 K := by
    intro n
    induction n with
    | zero =>
      intro k σ1 hm hz ho h53 hs hf0
      refine e_Mod_lookFrom_2 A _ _ ?_
      have hk12 : k = 12 := by omega
      subst hk12
      rw [if_pos (by decide)]
      refine ⟨hz.1, c_routeAt hz ho hu hb hfl ?_⟩
      simp only [kI_i]
      by_cases hr : rix S.2.2.2 f < S.2.2.2.length
      · have hbj : bj S.2.2.2 f = rix S.2.2.2 f := by unfold bj; rw [if_pos hr]
        rw [if_pos hr, if_pos (show (0 : Int32) ≤ nI (rix S.2.2.2 f) from (nI_le_iff (a := 0) (by decide) (by omega)).mpr (by omega))]
        refine ⟨hz.1, A + 41, z_758 hz, c_routeAt hz ho hu hb hfl ?_⟩
        simp only [kI_i]
        rw [if_pos hr]
        refine ⟨12, s_758 hz, in_n (by omega) (by decide), ?_⟩
        rw [ix_n (by omega)]
        have f1 : MF lkF (seP A) A σ1 (uI σ1 (A + 41) (rix S.2.2.2 f) (nI 1)) := MF.uI rfl
        intro σ3 e3
        have e3' : σ3 = uI σ1 (A + 41) (rix S.2.2.2 f) (nI 1) := e3
        subst e3'
        have s0 : SX σ1 A (fun _ => false) := fun j hj => hs j hj
        refine look_turns (f := f) (σ0 := σ) (B0 := b0 = true) hu hb hR (by omega) (fun σ' X b z1 o1 s1 g1 hX hbb f2 => ?_) 12 0 _ _ b0 (by omega) (f1.z hz) (ho.mf f1 (by unfold lkF; omega) (fun k j k1 k2 q => by unfold seP at q; omega)) s0.set (by simp (disch := omega) only [bs_pI, cc_pI, cs_pI, sh_pI, gR_pI, eI_pI, eR_pI, eL_pI, bs_pR, cc_pR, cs_pR, sh_pR, gI_pR, eI_pR, eR_pR, eL_pR, bs_uI, cc_uI, cs_uI, sh_uI, gI_uI, gR_uI, eR_uI, eL_uI, bs_uR, cc_uR, cs_uR, sh_uR, gI_uR, gR_uR, eI_uR, eL_uR, bs_uL, cc_uL, cs_uL, sh_uL, gI_uL, gR_uL, eI_uL, eR_uL, gI_s, gI_d, gR_s, gR_d, eI_s, eI_d, eI_e, eR_s, eR_d, eR_e, eL_s, eL_d, bs_bump, cc_bump, cs_bump, sh_bump, gI_bump, gR_bump, eI_bump, eR_bump, eL_bump]; exact h53) (TI.start (by omega) (fun j => by by_cases hj : j = rix S.2.2.2 f; rw [if_pos hj, hbj]; exact ⟨fun _ => hj, fun _ => rfl⟩; rw [if_neg hj, hbj]; exact ⟨fun q => absurd q (by decide), fun q => absurd q hj⟩) (fun q => Or.inl q) (fun q => q)) (hf0.tr f1)
        have f3 : MF lkF (lkP A) A σ σ' := f2.mo (fun f q => q) (fun a j q => Or.inr q)
        refine look_rows (σ0 := σ) (f := f) (Q := Q) (X := X) (b := b) hb hR hX (fun σ'' g2 q2 f4 => hk σ'' b hbb g2 q2 f4) S.2.2.2.length 0 σ' (by omega) z1 o1 (hcl.mf f3) s1 g1 (fun c hc => ?_) f3
        rw [f2.eI (by unfold seP; omega), hq c hc]
        congr 2
        exact propext ⟨Or.inl, fun q => by rcases q with q | ⟨i, q1, _⟩; exact q; omega⟩
      · have hbj : bj S.2.2.2 f = 12 := by unfold bj; rw [if_neg hr]
        rw [if_neg hr, if_neg (by decide)]
        refine ⟨hz.1, fun σ4 e4 => ?_⟩
        subst e4
        have f1 : MF lkF (seP A) A σ1 (pI σ1 753 A 1) := MF.pI rfl
        have f3 : MF lkF (lkP A) A σ (pI σ1 753 A 1) := (hf0.tr f1).mo (fun f q => q) (fun a j q => Or.inr q)
        have none : ∀ n i, i < S.2.2.2.length → ¬ Rc S.2.2.2 (Sd S.2.2.2 [f]) n i := by
          intro n
          induction n with
          | zero =>
            rintro i q1 ⟨k, q2, q3⟩
            rw [List.mem_singleton.mp q2] at q3
            omega
          | succ n ih =>
            rintro i q1 (q | ⟨i', q2, q3, -⟩)
            · exact ih i q1 q
            · exact ih i' q3 q2
        refine hk _ true ⟨fun _ => Or.inr (rc_mo (Nat.zero_le _) ⟨f, List.mem_singleton.mpr rfl, hbj⟩), fun _ => rfl⟩ gI_s (fun c hc => ?_) f3
        rw [(hf0.tr f1).eI (by unfold seP; omega), hq c hc]
        congr 2
        exact propext ⟨Or.inl, fun q => by rcases q with q | ⟨i, q1, q2, _⟩; exact q; exact absurd q2 (none 12 i q1)⟩
    | succ n ih =>
      intro k σ1 hm hz ho h53 hs hf0
      refine e_Mod_lookFrom_2 A _ _ ?_
      rw [if_neg (show ¬ (12 : Int32) ≤ nI k from fun q => by have := (nI_le_iff (a := 12) (by decide) (by omega)).mp q; omega)]
      simp (disch := omega) only [bs_pI, cc_pI, cs_pI, sh_pI, gR_pI, eI_pI, eR_pI, eL_pI, bs_pR, cc_pR, cs_pR, sh_pR, gI_pR, eI_pR, eR_pR, eL_pR, bs_uI, cc_uI, cs_uI, sh_uI, gI_uI, gR_uI, eR_uI, eL_uI, bs_uR, cc_uR, cs_uR, sh_uR, gI_uR, gR_uR, eI_uR, eL_uR, bs_uL, cc_uL, cs_uL, sh_uL, gI_uL, gR_uL, eI_uL, eR_uL, gI_s, gI_d, gR_s, gR_d, eI_s, eI_d, eI_e, eR_s, eR_d, eR_e, eL_s, eL_d, bs_bump, cc_bump, cs_bump, sh_bump, gI_bump, gR_bump, eI_bump, eR_bump, eL_bump, l_0, l_1, l_2, l_3, l_4, l_5, l_6, l_7, l_8, l_9, l_10, l_11, l_12, l_13, l_14, l_15, l_16, l_17, l_18, l_19, l_20, l_21, l_22, l_23, l_24, l_25, l_26, l_27, l_28, l_29, l_30, l_31, l_32, l_33, l_34, l_35, l_36, l_37, l_38, l_39, l_40, l_41, l_42, l_43, l_44, l_45, l_46, l_47, l_48, l_49, l_50, l_51, l_52, l_53, l_54, l_55, l_56, l_57, l_58, l_59, l_60, l_61, l_62, l_63, l_64, l_65, l_66, l_67, l_68, l_69, l_70, l_71, l_72, l_73, l_74, l_75, l_76, l_77, l_78, l_79, l_80, l_81, l_82, l_83, l_84, l_85, l_86, l_87, l_88, l_89, l_90, l_91, l_92, l_93, l_94, l_95, l_96, l_97, l_98, l_99, l_100, l_101, l_102, l_103, l_104, l_105, l_106, l_107, l_108, l_109, l_110, l_111, l_112, l_113, l_114, l_115, l_116, l_117, l_118, l_119, l_120, l_121, l_122, l_123, l_124, l_125, l_126, l_127, l_128, l_129, l_130, l_256, l_512, l_676, l_704, l_999, l_1000, l_4096, l_17576, l_32768, l_65535, l_456975, l_456976, l_m1, l_m2, in_iff, eq_m1, m1_eq, m1_lt, m1_le, le_m1, lt_m1, eq_m2, m2_m1, m1_m2, add_m1, m1_add, sub_n, mul_n, add_n, bo_n0, bo_n1, ch_n, lt_n, le_n, eq_n, ix_n, i2c_n, rem_n, div_n, kI_i, kI_x, kV_v, kV_x, kR_r, kR_n, kR_x, kHI_i, kHI_0, kHI_1, kHV_v, kHV_0, kHV_1, va_s, va_n, exists_eq_left', exists_eq_left, forall_eq, forall_eq', and_true, true_and, and_self, Option.some.injEq, Prod.mk.injEq, if_tt, if_ff, reduceIte, reduceCtorEq, not_true_eq_false, not_false_eq_true, Nat.reduceAdd, Nat.reduceMul, Nat.reduceSub, Nat.reduceLT, Nat.reduceLeDiff, Nat.reduceEqDiff, false_implies, true_implies, implies_true, hz.1, z_758 hz, s_758 hz]
      refine ⟨by omega, ?_⟩
      have f1 : MF lkF (seP A) A σ1 (uI σ1 (A + 41) k (nI 0)) := MF.uI rfl
      refine ih (k + 1) _ (by omega) (f1.z hz) (ho.mf f1 (by unfold lkF; omega) (fun k j k1 k2 q => by unfold seP at q; omega)) (by simp only [bs_pI, cc_pI, cs_pI, sh_pI, gR_pI, eI_pI, eR_pI, eL_pI, bs_pR, cc_pR, cs_pR, sh_pR, gI_pR, eI_pR, eR_pR, eL_pR, bs_uI, cc_uI, cs_uI, sh_uI, gI_uI, gR_uI, eR_uI, eL_uI, bs_uR, cc_uR, cs_uR, sh_uR, gI_uR, gR_uR, eI_uR, eL_uR, bs_uL, cc_uL, cs_uL, sh_uL, gI_uL, gR_uL, eI_uL, eR_uL, gI_s, gI_d, gR_s, gR_d, eI_s, eI_d, eI_e, eR_s, eR_d, eR_e, eL_s, eL_d, bs_bump, cc_bump, cs_bump, sh_bump, gI_bump, gR_bump, eI_bump, eR_bump, eL_bump]; exact h53) (fun j hj => ?_) (hf0.tr f1)
      by_cases hjk : j = k
      · subst hjk; simp only [bs_pI, cc_pI, cs_pI, sh_pI, gR_pI, eI_pI, eR_pI, eL_pI, bs_pR, cc_pR, cs_pR, sh_pR, gI_pR, eI_pR, eR_pR, eL_pR, bs_uI, cc_uI, cs_uI, sh_uI, gI_uI, gR_uI, eR_uI, eL_uI, bs_uR, cc_uR, cs_uR, sh_uR, gI_uR, gR_uR, eI_uR, eL_uR, bs_uL, cc_uL, cs_uL, sh_uL, gI_uL, gR_uL, eI_uL, eR_uL, gI_s, gI_d, gR_s, gR_d, eI_s, eI_d, eI_e, eR_s, eR_d, eR_e, eL_s, eL_d, bs_bump, cc_bump, cs_bump, sh_bump, gI_bump, gR_bump, eI_bump, eR_bump, eL_bump]
      · simp (disch := omega) only [bs_pI, cc_pI, cs_pI, sh_pI, gR_pI, eI_pI, eR_pI, eL_pI, bs_pR, cc_pR, cs_pR, sh_pR, gI_pR, eI_pR, eR_pR, eL_pR, bs_uI, cc_uI, cs_uI, sh_uI, gI_uI, gR_uI, eR_uI, eL_uI, bs_uR, cc_uR, cs_uR, sh_uR, gI_uR, gR_uR, eI_uR, eL_uR, bs_uL, cc_uL, cs_uL, sh_uL, gI_uL, gR_uL, eI_uL, eR_uL, gI_s, gI_d, gR_s, gR_d, eI_s, eI_d, eI_e, eR_s, eR_d, eR_e, eL_s, eL_d, bs_bump, cc_bump, cs_bump, sh_bump, gI_bump, gR_bump, eI_bump, eR_bump, eL_bump]; exact hs j (by omega)
  exact e_Mod_lookFrom_0 A _ (loop 12 0 σ (by omega) hz ho h53 (fun j hj => absurd hj (Nat.not_lt_zero _)) MF.rf)
theorem c_look {xs : List Nat} (hz : MZ σ A) (ho : MO σ A S.2.2.2) (hcl : CL σ A S) (hu : Uq S.2.2.2) (hb : Rb S.2.2.2) (hF : FM σ A xs false) (h0 : flt xs false = 0) (hib : ∀ k ∈ hInd xs, k < 456976) (hk : ∀ σ' (b : Bool), (b = true ↔ Lost S (hInd xs)) → gI σ' 753 A = nI b.toNat → RH σ' A (Rd S (hInd xs)) → MF lkF (lkP A) A σ σ' → K (.inl none) σ') : PW (d + 2) M_Mod_look 0 [.ref A, uu] [] σ K := by
  obtain ⟨t1, w1, -, -, h6⟩ := hF
  obtain ⟨-, f, h50, hfl, hIe⟩ := h6 h0
  have hI0 : 1 ≤ (hI xs).length ∧ (hI xs).length ≤ 4 ∧ (hI xs).all (isI xs) = true := by
    unfold flt at h0
    split at h0
    · omega
    · rw [if_neg (by decide)] at h0
      split at h0
      · omega
      · split at h0
        · assumption
        · omega
  have hlen : (hInd xs).length = (hW xs).length - f := by unfold hInd; rw [List.length_map, hIe, List.length_drop]
  have hget : ∀ i, i < (hInd xs).length → (hInd xs).getD i 0 = indV xs ((hW xs).getD (f + i) (0, 0)) ∧ isI xs ((hW xs).getD (f + i) (0, 0)) = true := by
    intro i hi
    have hi2 : i < (hI xs).length := by unfold hInd at hi; rw [List.length_map] at hi; exact hi
    have e : (hI xs)[i] = (hW xs).getD (f + i) (0, 0) := by
      rw [List.getD_eq_getElem?_getD, ← List.getElem?_drop, ← hIe, List.getElem?_eq_getElem hi2]; rfl
    refine ⟨?_, ?_⟩
    · unfold hInd
      rw [List.getD_eq_getElem?_getD, List.getElem?_map, List.getElem?_eq_getElem hi2, ← e]; rfl
    · rw [← e]
      exact List.all_eq_true.mp hI0.2.2 _ (List.getElem_mem hi2)
  have w2 := w1.2.1
  have words : ∀ (n i : Nat) (σ1 : PH) (b : Bool), i + n = (hInd xs).length → MZ σ1 A → MO σ1 A S.2.2.2 → CL σ1 A S → TM σ1 A xs → WM σ1 A (hW xs) → gI σ1 753 A = nI b.toNat → (b = true ↔ ∃ i', i' < i ∧ Lost S [(hInd xs).getD i' 0]) → RH σ1 A (fun c => ∃ i', i' < i ∧ Rd S [(hInd xs).getD i' 0] c) → MF lkF (lkP A) A σ σ1 → PW (d + 2) M_Mod_look 31 [.ref A, .int (nI (f + i))] [] σ1 K := by
    intro n
    induction n with
    | zero =>
      intro i σ1 b hm z1 o1 c1 x1 v1 g1 hbb hq f1
      refine e_Mod_look_31 A _ ⟨z1.1, ?_⟩
      rw [v1.1, if_pos ((nI_le_iff (by omega) (by omega)).mpr (by omega))]
      have ex : ∀ P : Nat → Prop, (∃ i', i' < i ∧ P ((hInd xs).getD i' 0)) ↔ ∃ k ∈ hInd xs, P k := by
        intro P
        constructor
        · rintro ⟨i', q1, q2⟩; exact ⟨_, getD_mem (by omega), q2⟩
        · rintro ⟨k, q1, q2⟩
          obtain ⟨i', hi', e⟩ := List.mem_iff_getElem.mp q1
          exact ⟨i', by omega, by rw [List.getD_eq_getElem?_getD, List.getElem?_eq_getElem hi', e]; exact q2⟩
      refine hk σ1 b (hbb.trans ((ex (fun k => Lost S [k])).trans lost_un.symm)) g1 (fun c hc => ?_) f1
      rw [hq c hc]
      congr 2
      exact propext ((ex (fun k => Rd S [k] c)).trans rd_un.symm)
    | succ n ih =>
      intro i σ1 b hm z1 o1 c1 x1 v1 g1 hbb hq f1
      obtain ⟨e1, e2⟩ := hget i (by omega)
      refine e_Mod_look_31 A _ ⟨z1.1, ?_⟩
      rw [v1.1, if_neg (fun q => by have := (nI_le_iff (by omega) (by omega)).mp q; omega)]
      refine c_modIndicatorOf z1 x1 v1 hW_Win (by omega) e2 ?_
      simp only [kI_i]
      rw [← e1]
      refine ⟨z1.1, c_lookFrom z1 o1 c1 hu hb (hib _ (getD_mem (by omega))) g1 hq (fun σ2 b2 hb2 g2 qq2 f2 => ?_)⟩
      simp only [kV_v]
      rw [nI_1, show f + i + 1 = f + (i + 1) by omega]
      refine ih (i + 1) σ2 b2 (by omega) (f2.z z1) (o1.mf f2 (by unfold lkF; omega) (fun k j k1 k2 q => by unfold lkP at q; omega)) (c1.mf f2) (x1.mf f2 (by unfold lkF; omega) (fun j => by unfold lkP; omega)) (v1.mf f2 (by unfold lkF; omega) (fun j => by unfold lkP; omega)) g2 (hb2.trans ?_) (fun c hc => ?_) (f1.tr f2)
      · rw [hbb]
        constructor
        · rintro (⟨i', q1, q2⟩ | q)
          · exact ⟨i', by omega, q2⟩
          · exact ⟨i, by omega, q⟩
        · rintro ⟨i', q1, q2⟩
          by_cases hii : i' = i
          · subst hii; exact Or.inr q2
          · exact Or.inl ⟨i', by omega, q2⟩
      · rw [qq2 c hc]
        congr 2
        refine propext ?_
        constructor
        · rintro (⟨i', q1, q2⟩ | q)
          · exact ⟨i', by omega, q2⟩
          · exact ⟨i, by omega, q⟩
        · rintro ⟨i', q1, q2⟩
          by_cases hii : i' = i
          · subst hii; exact Or.inr q2
          · exact Or.inl ⟨i', by omega, q2⟩
  have clear0 : ∀ (n k : Nat) (σ1 : PH), k + n = 8 → MZ σ1 A → gI σ1 753 A = nI 0 → (∀ j, j < k → eI σ1 (A + 38) j = nI 0) → MF lkF (lkP A) A σ σ1 → PW (d + 2) M_Mod_look 7 [.ref A, .int (nI k)] [] σ1 K := by
    intro n
    induction n with
    | zero =>
      intro k σ1 hm z1 g1 hs f1
      have hk8 : k = 8 := by omega
      subst hk8
      refine e_Mod_look_7 A _ ?_
      rw [if_pos (by decide)]
      refine ⟨z1.1, ?_⟩
      rw [f1.gI (by unfold lkF; omega), h50]
      have := words ((hInd xs).length) 0 σ1 false (by omega) z1 (ho.mf f1 (by unfold lkF; omega) (fun k j k1 k2 q => by unfold lkP at q; omega)) (hcl.mf f1) (t1.mf f1 (by unfold lkF; omega) (fun j => by unfold lkP; omega)) (w1.mf f1 (by unfold lkF; omega) (fun j => by unfold lkP; omega)) g1 ⟨fun q => absurd q (by decide), fun ⟨i', q, _⟩ => absurd q (Nat.not_lt_zero _)⟩ (fun c hc => by rw [hs c hc, pN_f]; rintro ⟨i', q, _⟩; exact absurd q (Nat.not_lt_zero _)) f1
      exact this
    | succ n ih =>
      intro k σ1 hm z1 g1 hs f1
      refine e_Mod_look_7 A _ ?_
      rw [if_neg (show ¬ (8 : Int32) ≤ nI k from fun q => by have := (nI_le_iff (a := 8) (by decide) (by omega)).mp q; omega)]
      simp (disch := omega) only [bs_pI, cc_pI, cs_pI, sh_pI, gR_pI, eI_pI, eR_pI, eL_pI, bs_pR, cc_pR, cs_pR, sh_pR, gI_pR, eI_pR, eR_pR, eL_pR, bs_uI, cc_uI, cs_uI, sh_uI, gI_uI, gR_uI, eR_uI, eL_uI, bs_uR, cc_uR, cs_uR, sh_uR, gI_uR, gR_uR, eI_uR, eL_uR, bs_uL, cc_uL, cs_uL, sh_uL, gI_uL, gR_uL, eI_uL, eR_uL, gI_s, gI_d, gR_s, gR_d, eI_s, eI_d, eI_e, eR_s, eR_d, eR_e, eL_s, eL_d, bs_bump, cc_bump, cs_bump, sh_bump, gI_bump, gR_bump, eI_bump, eR_bump, eL_bump, l_0, l_1, l_2, l_3, l_4, l_5, l_6, l_7, l_8, l_9, l_10, l_11, l_12, l_13, l_14, l_15, l_16, l_17, l_18, l_19, l_20, l_21, l_22, l_23, l_24, l_25, l_26, l_27, l_28, l_29, l_30, l_31, l_32, l_33, l_34, l_35, l_36, l_37, l_38, l_39, l_40, l_41, l_42, l_43, l_44, l_45, l_46, l_47, l_48, l_49, l_50, l_51, l_52, l_53, l_54, l_55, l_56, l_57, l_58, l_59, l_60, l_61, l_62, l_63, l_64, l_65, l_66, l_67, l_68, l_69, l_70, l_71, l_72, l_73, l_74, l_75, l_76, l_77, l_78, l_79, l_80, l_81, l_82, l_83, l_84, l_85, l_86, l_87, l_88, l_89, l_90, l_91, l_92, l_93, l_94, l_95, l_96, l_97, l_98, l_99, l_100, l_101, l_102, l_103, l_104, l_105, l_106, l_107, l_108, l_109, l_110, l_111, l_112, l_113, l_114, l_115, l_116, l_117, l_118, l_119, l_120, l_121, l_122, l_123, l_124, l_125, l_126, l_127, l_128, l_129, l_130, l_256, l_512, l_676, l_704, l_999, l_1000, l_4096, l_17576, l_32768, l_65535, l_456975, l_456976, l_m1, l_m2, in_iff, eq_m1, m1_eq, m1_lt, m1_le, le_m1, lt_m1, eq_m2, m2_m1, m1_m2, add_m1, m1_add, sub_n, mul_n, add_n, bo_n0, bo_n1, ch_n, lt_n, le_n, eq_n, ix_n, i2c_n, rem_n, div_n, kI_i, kI_x, kV_v, kV_x, kR_r, kR_n, kR_x, kHI_i, kHI_0, kHI_1, kHV_v, kHV_0, kHV_1, va_s, va_n, exists_eq_left', exists_eq_left, forall_eq, forall_eq', and_true, true_and, and_self, Option.some.injEq, Prod.mk.injEq, if_tt, if_ff, reduceIte, reduceCtorEq, not_true_eq_false, not_false_eq_true, Nat.reduceAdd, Nat.reduceMul, Nat.reduceSub, Nat.reduceLT, Nat.reduceLeDiff, Nat.reduceEqDiff, false_implies, true_implies, implies_true, z1.1, z_752 z1, s_752 z1]
      refine ⟨by omega, ?_⟩
      have f2 : MF lkF (lkP A) A σ1 (uI σ1 (A + 38) k (nI 0)) := MF.uI (Or.inl rfl)
      refine ih (k + 1) _ (by omega) (f2.z z1) (by simp only [bs_pI, cc_pI, cs_pI, sh_pI, gR_pI, eI_pI, eR_pI, eL_pI, bs_pR, cc_pR, cs_pR, sh_pR, gI_pR, eI_pR, eR_pR, eL_pR, bs_uI, cc_uI, cs_uI, sh_uI, gI_uI, gR_uI, eR_uI, eL_uI, bs_uR, cc_uR, cs_uR, sh_uR, gI_uR, gR_uR, eI_uR, eL_uR, bs_uL, cc_uL, cs_uL, sh_uL, gI_uL, gR_uL, eI_uL, eR_uL, gI_s, gI_d, gR_s, gR_d, eI_s, eI_d, eI_e, eR_s, eR_d, eR_e, eL_s, eL_d, bs_bump, cc_bump, cs_bump, sh_bump, gI_bump, gR_bump, eI_bump, eR_bump, eL_bump]; exact g1) (fun j hj => ?_) (f1.tr f2)
      by_cases hjk : j = k
      · subst hjk; simp only [bs_pI, cc_pI, cs_pI, sh_pI, gR_pI, eI_pI, eR_pI, eL_pI, bs_pR, cc_pR, cs_pR, sh_pR, gI_pR, eI_pR, eR_pR, eL_pR, bs_uI, cc_uI, cs_uI, sh_uI, gI_uI, gR_uI, eR_uI, eL_uI, bs_uR, cc_uR, cs_uR, sh_uR, gI_uR, gR_uR, eI_uR, eL_uR, bs_uL, cc_uL, cs_uL, sh_uL, gI_uL, gR_uL, eI_uL, eR_uL, gI_s, gI_d, gR_s, gR_d, eI_s, eI_d, eI_e, eR_s, eR_d, eR_e, eL_s, eL_d, bs_bump, cc_bump, cs_bump, sh_bump, gI_bump, gR_bump, eI_bump, eR_bump, eL_bump]
      · simp (disch := omega) only [bs_pI, cc_pI, cs_pI, sh_pI, gR_pI, eI_pI, eR_pI, eL_pI, bs_pR, cc_pR, cs_pR, sh_pR, gI_pR, eI_pR, eR_pR, eL_pR, bs_uI, cc_uI, cs_uI, sh_uI, gI_uI, gR_uI, eR_uI, eL_uI, bs_uR, cc_uR, cs_uR, sh_uR, gI_uR, gR_uR, eI_uR, eL_uR, bs_uL, cc_uL, cs_uL, sh_uL, gI_uL, gR_uL, eI_uL, eR_uL, gI_s, gI_d, gR_s, gR_d, eI_s, eI_d, eI_e, eR_s, eR_d, eR_e, eL_s, eL_d, bs_bump, cc_bump, cs_bump, sh_bump, gI_bump, gR_bump, eI_bump, eR_bump, eL_bump]; exact hs j (by omega)
  refine e_Mod_look_0 A ⟨hz.1, fun σ1 e1 => ?_⟩
  have f1 : MF lkF (lkP A) A σ σ1 := by rw [e1]; exact MF.pI rfl
  exact clear0 8 0 σ1 (by omega) (f1.z hz) (by rw [e1]; exact gI_s) (fun j hj => absurd hj (Nat.not_lt_zero _)) f1
end Mod8
