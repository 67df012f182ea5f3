/-! ===== the law: one step ===== -/
/-- where the law stands after t steps: the script, the class, the reference, the long[1] -/
def LW (σ : PH) (b L B t : Nat) (S : SP) : Prop := sh σ b = (10, L) ∧ CR σ B S ∧ MR σ (B + 188) S ∧ sh σ (B + 230) = (5, 1) ∧ Inv S t ∧ cc σ ≤ 500 + t ∧ cs σ ≤ 1700000 + 6 * t
/-- between the class's call and the reference's -/
def LM (σ1 σ : PH) (b L B t : Nat) (S S' : SP) : Prop := sh σ1 b = (10, L) ∧ (∀ j, eI σ1 b j = eI σ b j) ∧ CR σ1 B S' ∧ MR σ1 (B + 188) S ∧ sh σ1 (B + 230) = (5, 1) ∧ cc σ1 ≤ 500 + (t + 1) ∧ cs σ1 ≤ 1700000 + 6 * (t + 1)
theorem okG {a lo hi : Nat} (h1 : lo ≤ a) (h2 : a ≤ hi) (h3 : hi < 2147483648) : ¬ (nI a < nI lo ∨ ¬ nI a ≤ nI hi) := by
  rintro (q | q)
  · have := (nI_lt_iff (by omega) (by omega)).mp q; omega
  · exact q ((nI_le_iff (by omega) (by omega)).mpr h2)
theorem ok8 {c : Nat} (h : c < 8) : ¬ (nI c < 0 ∨ ¬ nI c ≤ 7) := okG (lo := 0) (hi := 7) (by omega) (by omega) (by decide)
theorem inj_n {a c : Nat} (h : nI a = nI c) (ha : a < 2147483648) (hb : c < 2147483648) : c = a := ((nI_eq_iff ha hb).mp h).symm
theorem lg_self {x : Int64} : lg_cmp x x = 0 := by
  unfold lg_cmp
  rw [if_neg (fun q => absurd q (by simp)), if_pos rfl]
section Law
variable {σ σ' σ1 σ2 : PH} {b L B t : Nat} {S S' : SP} {K : PO → PH → Prop}
theorem LW.mid (h : LW σ b L B t S) (hb : b < B) (hC : CR σ' B S') (hf : Fr (dP B) σ σ') : LM σ' σ b L B t S S' := by
  obtain ⟨w1, w2, w3, w4, w5, w6, w7⟩ := h
  have g := hf.ag (q := b) (by unfold dP; omega)
  exact ⟨by rw [hf.sh]; exact w1, g.2.2.2.1, hC, w3.ag (fun q hq => hf.ag (by unfold gP at hq; unfold dP; omega)), by rw [hf.sh]; exact w4, by rw [hf.2.1]; omega, by rw [hf.2.2.1]; omega⟩
theorem LM.out {v : Int64} (h : LM σ1 σ b L B t S S') : LM (uL σ1 (B + 230) 0 v) σ b L B t S S' := by
  obtain ⟨w1, w2, w3, w4, w5, w6, w7⟩ := h
  exact ⟨w1, w2, w3.ag (fun q q1 q2 => Ag.uL (by omega)), w4.ag (fun q hq => Ag.uL (by unfold gP at hq; omega)), w5, w6, w7⟩
theorem LW.bad (h : LW σ b L B t S) : LM (bump σ 1 6) σ b L B t S S := by
  obtain ⟨w1, w2, w3, w4, w5, w6, w7⟩ := h
  exact ⟨w1, fun _ => rfl, w2.bump, w3.ag (fun q hq => ⟨rfl, fun _ => rfl, fun _ => rfl, fun _ => rfl, fun _ => rfl, fun _ => rfl⟩), w4, by rw [cc_bump]; omega, by rw [cs_bump]; omega⟩
theorem LM.fin (h : LM σ1 σ b L B t S S') (hM : MR σ2 (B + 188) S') (hf : Fr (gP (B + 188)) σ1 σ2) (hI : Inv S' (t + 1)) : LW σ2 b L B (t + 1) S' := by
  obtain ⟨w1, w2, w3, w4, w5, w6, w7⟩ := h
  exact ⟨by rw [hf.sh]; exact w1, w3.ag (fun q q1 q2 => hf.ag (by unfold gP; omega)), hM, by rw [hf.sh]; exact w5, hI, by rw [hf.2.1]; omega, by rw [hf.2.2.1]; omega⟩
theorem LM.eL (h : LM σ1 σ b L B t S S') (hf : Fr (gP (B + 188)) σ1 σ2) : eL σ2 (B + 230) 0 = eL σ1 (B + 230) 0 := (hf.ag (q := B + 230) (by unfold gP; omega)).2.2.2.2.2 0
theorem LM.z (h : LM σ1 σ b L B t S S') : sh σ1 (B + 188) = (1, 11) := h.2.2.2.1.1.1
theorem tl_good {A O : Nat} {r : Int32} {P N : PH → Prop} (hz : sh σ2 A = (1, 11)) (g : gI σ2 704 A = nI 0) (hO : sh σ2 O = (5, 1)) (hE : eL σ2 O 0 = r.toInt64) (hP : P σ2) : sh σ2 A = (1, 11) ∧ PW 12 M_Mod_thrown 0 [.ref A] [] σ2 (kI (fun r3 σ3 => (if r3 = 0 then (if (0 : Int32) = 0 then (∃ n3 : Nat, sh σ3 O = (5, n3) ∧ vp_in 0 n3 ∧ (if (lg_cmp (eL σ3 O (ix 0)) r.toInt64) = 0 then P σ3 else N σ3)) else P σ3) else N σ3)) K) := by
  refine ⟨hz, e_Mod_thrown_0 A ⟨hz, ?_⟩⟩
  rw [kI_i, g, if_pos (show nI 0 = (0 : Int32) by decide), if_pos rfl]
  refine ⟨1, hO, in_n (n := 0) (by decide) (by decide), ?_⟩
  have e : eL σ2 O (ix 0) = r.toInt64 := hE
  rw [e, lg_self, if_pos rfl]
  exact hP
theorem tl_bad {A : Nat} {r1 : Int32} {X P N : PH → Prop} (hz : sh σ2 A = (1, 11)) (g : gI σ2 704 A = r1) (hne : ¬ r1 = 0) (hP : P σ2) : sh σ2 A = (1, 11) ∧ PW 12 M_Mod_thrown 0 [.ref A] [] σ2 (kI (fun r3 σ3 => (if r3 = r1 then (if r1 = 0 then X σ3 else P σ3) else N σ3)) K) := by
  refine ⟨hz, e_Mod_thrown_0 A ⟨hz, ?_⟩⟩
  rw [kI_i, g, if_pos rfl, if_neg hne]
  exact hP
theorem tl_void {A : Nat} {r1 : Int32} {P N : PH → Prop} (hz : sh σ2 A = (1, 11)) (g : gI σ2 704 A = r1) (hP : P σ2) : sh σ2 A = (1, 11) ∧ PW 12 M_Mod_thrown 0 [.ref A] [] σ2 (kI (fun r3 σ3 => (if r3 = r1 then P σ3 else N σ3)) K) := by
  refine ⟨hz, e_Mod_thrown_0 A ⟨hz, ?_⟩⟩
  rw [kI_i, g, if_pos rfl]
  exact hP
theorem w_sign {x4 : Int32} (hW : LW σ b L B t S) (hb : b < B) (ht : t < 512) (v1 : vp_in (x4 + 1) L) (v2 : vp_in (x4 + 2) L) (hk : ∀ σ' S', LW σ' b L B (t + 1) S' → PW 13 M_Law_law 976 [.ref b, .ref B, .ref (B + 188), .ref (B + 230), .int x4, uu, uu] [] σ' K) : PW 13 M_Law_law 112 [.ref b, .ref B, .ref (B + 188), .ref (B + 230), .int x4, uu, uu] [] σ K := by
  have hW0 := hW
  obtain ⟨w1, hC, hM, w4, hI, w6, w7⟩ := hW
  have hR : Rm σ := ⟨by omega, by omega⟩
  have hB := hC.bd hI.1 hI.2.1
  refine e_Law_law_112 _ _ _ _ _ ⟨L, w1, v1, v2, e_Law_sign_0 B _ _ _ ⟨hC.1.1, k_sign hC hI hR (fun q => ?_) (fun c s hc hs ec es σ' hC' hf => ?_)⟩⟩
  · rw [kHI_0, kI_i]
    have m := hW0.bad
    refine ⟨L, m.1, v1, v2, m.z, ?_⟩
    rw [m.2.1, m.2.1]
    refine q_sign m.2.2.2.1 hI (by omega) hB (fun _ σ2 M2 g2 f2 => ?_) (fun c s hc hs ec es => ?_)
    · rw [kI_i]
      exact tl_bad (by rw [f2.sh]; exact m.z) g2 (by decide) (e_Law_law_177 _ _ _ _ _ (hk σ2 S (m.fin M2 f2 (hI.mo (by omega)))))
    · rw [ec, es] at q
      rcases q with q | q
      · exact absurd q (ok8 hc)
      · exact absurd q (okG (lo := 0) (hi := 31) (by omega) (by omega) (by decide))
  · rw [kHI_i]
    refine ⟨1, by rw [hf.sh]; exact w4, in_n (n := 0) (by decide) (by decide), fun σ2 e2 => ?_⟩
    have e2' : σ2 = uL σ' (B + 230) 0 (spSign S c s).2.toInt64 := e2
    have m := (hW0.mid hb hC' hf).out (v := (spSign S c s).2.toInt64)
    rw [← e2'] at m
    have hE : eL σ2 (B + 230) 0 = (spSign S c s).2.toInt64 := by rw [e2']; exact eL_s
    rw [kI_i]
    refine ⟨L, m.1, v1, v2, m.z, ?_⟩
    rw [m.2.1, m.2.1, ec, es]
    refine q_sign m.2.2.2.1 hI (by omega) hB (fun q => ?_) (fun c' s' hc' hs' ec' es' σ3 M3 g3 f3 => ?_)
    · rcases q with q | q
      · exact absurd q (ok8 hc)
      · exact absurd q (okG (lo := 0) (hi := 31) (by omega) (by omega) (by decide))
    · have q1 := inj_n ec' (by omega) (by omega)
      have q2 := inj_n es' (by omega) (by omega)
      subst q1 q2
      rw [kI_i]
      have n3 := m.fin M3 f3 (hI.sign hc)
      exact tl_good (by rw [f3.sh]; exact m.z) g3 n3.2.2.2.1 (by rw [m.eL f3]; exact hE) (e_Law_law_177 _ _ _ _ _ (hk σ3 _ n3))
end Law
