/-! ===== the law: the other steps ===== -/
section Law2
theorem i2c_any (x : Int32) : ∃ ch : Nat, ch < 65536 ∧ (x.toUInt32 % 65536).toInt32 = nI ch := by
  refine ⟨_, ?_, pk_char ..⟩
  exact Nat.mod_lt _ (by decide)
variable {σ σ' σ1 σ2 : PH} {b L B t : Nat} {S S' : SP} {K : PO → PH → Prop}
theorem w_receipt {x4 : Int32} (hW : LW σ b L B t S) (hb : b < B) (ht : t < 512) (v1 : vp_in (x4 + 1) L) (hk : ∀ σ' S', LW σ' b L B (t + 1) S' → PW 13 M_Law_law 976 [.ref b, .ref B, .ref (B + 188), .ref (B + 230), .int x4, uu, uu] [] σ' K) : PW 13 M_Law_law 180 [.ref b, .ref B, .ref (B + 188), .ref (B + 230), .int x4, uu, uu] [] σ K := by
  have hW0 := hW
  obtain ⟨w1, hC, hM, w4, hI, w6, w7⟩ := hW
  have hR : Rm σ := ⟨by omega, by omega⟩
  have hB := hC.bd hI.1 hI.2.1
  have hI1 := hI.1
  have hI2 := hI.2.1
  have hu : Uq S.2.2.2 := hI.2.2.2.2
  have hrb : Rb S.2.2.2 := hB.2.2
  refine e_Law_law_180 _ _ _ _ _ ⟨L, w1, v1, e_Law_receipt_0 B _ _ ⟨hC.1.1, k_receipt hC hR (fun c hc ec => ?_) (fun q => ?_)⟩⟩
  · rw [kHI_i]
    refine ⟨1, by  exact w4, in_n (n := 0) (by decide) (by decide), fun σ2 e2 => ?_⟩
    have e2' : σ2 = uL σ (B + 230) 0 (nI (sLa (S.1 c))).toInt64 := e2
    have m := (hW0.mid hb hC Fr.rf).out (v := (nI (sLa (S.1 c))).toInt64)
    rw [← e2'] at m
    have hE : eL σ2 (B + 230) 0 = (nI (sLa (S.1 c))).toInt64 := by rw [e2']; exact eL_s
    rw [kI_i]
    refine ⟨L, m.1, v1, m.z, ?_⟩
    rw [m.2.1, ec]
    refine q_receipt m.2.2.2.1 (fun c' σ3 hc' ec' M3 g3 f3 => ?_) (fun σ3 q M3 g3 f3 => absurd q (ok8 hc))
    · have q1 := inj_n ec' (by omega) (by omega)
      subst q1
      rw [kI_i]
      have n3 := m.fin M3 f3 (hI.mo (by omega))
      exact tl_good (by rw [f3.sh]; exact m.z) g3 n3.2.2.2.1 (by rw [m.eL f3]; exact hE) (e_Law_law_233 _ _ _ _ _ (hk σ3 _ n3))
  · rw [kHI_0, kI_i]
    have m := hW0.bad
    refine ⟨L, m.1, v1, m.z, ?_⟩
    rw [m.2.1]
    refine q_receipt m.2.2.2.1 (fun c σ2 hc ec M2 g2 f2 => ?_) (fun σ2 _ M2 g2 f2 => ?_)
    · rw [ec] at q; exact absurd q (ok8 hc)
    · rw [kI_i]
      exact tl_bad (by rw [f2.sh]; exact m.z) g2 (by decide) (e_Law_law_233 _ _ _ _ _ (hk σ2 S (m.fin M2 f2 (hI.mo (by omega)))))
theorem w_askFor {x4 : Int32} (hW : LW σ b L B t S) (hb : b < B) (ht : t < 512) (v1 : vp_in (x4 + 1) L) (hk : ∀ σ' S', LW σ' b L B (t + 1) S' → PW 13 M_Law_law 976 [.ref b, .ref B, .ref (B + 188), .ref (B + 230), .int x4, uu, uu] [] σ' K) : PW 13 M_Law_law 236 [.ref b, .ref B, .ref (B + 188), .ref (B + 230), .int x4, uu, uu] [] σ K := by
  have hW0 := hW
  obtain ⟨w1, hC, hM, w4, hI, w6, w7⟩ := hW
  have hR : Rm σ := ⟨by omega, by omega⟩
  have hB := hC.bd hI.1 hI.2.1
  have hI1 := hI.1
  have hI2 := hI.2.1
  have hu : Uq S.2.2.2 := hI.2.2.2.2
  have hrb : Rb S.2.2.2 := hB.2.2
  refine e_Law_law_236 _ _ _ _ _ ⟨L, w1, v1, e_Law_askFor_0 B _ _ ⟨hC.1.1, k_askFor hC hR (fun c hc ec => ?_) (fun q => ?_)⟩⟩
  · rw [kHI_i]
    refine ⟨1, by  exact w4, in_n (n := 0) (by decide) (by decide), fun σ2 e2 => ?_⟩
    have e2' : σ2 = uL σ (B + 230) 0 (nI ((sMi (S.1 c)).getD 0 0)).toInt64 := e2
    have m := (hW0.mid hb hC Fr.rf).out (v := (nI ((sMi (S.1 c)).getD 0 0)).toInt64)
    rw [← e2'] at m
    have hE : eL σ2 (B + 230) 0 = (nI ((sMi (S.1 c)).getD 0 0)).toInt64 := by rw [e2']; exact eL_s
    rw [kI_i]
    refine ⟨L, m.1, v1, m.z, ?_⟩
    rw [m.2.1, ec]
    refine q_askFor m.2.2.2.1 (fun c' σ3 hc' ec' M3 g3 f3 => ?_) (fun σ3 q M3 g3 f3 => absurd q (ok8 hc))
    · have q1 := inj_n ec' (by omega) (by omega)
      subst q1
      rw [kI_i]
      have n3 := m.fin M3 f3 (hI.mo (by omega))
      exact tl_good (by rw [f3.sh]; exact m.z) g3 n3.2.2.2.1 (by rw [m.eL f3]; exact hE) (e_Law_law_289 _ _ _ _ _ (hk σ3 _ n3))
  · rw [kHI_0, kI_i]
    have m := hW0.bad
    refine ⟨L, m.1, v1, m.z, ?_⟩
    rw [m.2.1]
    refine q_askFor m.2.2.2.1 (fun c σ2 hc ec M2 g2 f2 => ?_) (fun σ2 _ M2 g2 f2 => ?_)
    · rw [ec] at q; exact absurd q (ok8 hc)
    · rw [kI_i]
      exact tl_bad (by rw [f2.sh]; exact m.z) g2 (by decide) (e_Law_law_289 _ _ _ _ _ (hk σ2 S (m.fin M2 f2 (hI.mo (by omega)))))
theorem w_send {x4 : Int32} (hW : LW σ b L B t S) (hb : b < B) (ht : t < 512) (v1 : vp_in (x4 + 1) L) (hk : ∀ σ' S', LW σ' b L B (t + 1) S' → PW 13 M_Law_law 976 [.ref b, .ref B, .ref (B + 188), .ref (B + 230), .int x4, uu, uu] [] σ' K) : PW 13 M_Law_law 511 [.ref b, .ref B, .ref (B + 188), .ref (B + 230), .int x4, uu, uu] [] σ K := by
  have hW0 := hW
  obtain ⟨w1, hC, hM, w4, hI, w6, w7⟩ := hW
  have hR : Rm σ := ⟨by omega, by omega⟩
  have hB := hC.bd hI.1 hI.2.1
  have hI1 := hI.1
  have hI2 := hI.2.1
  have hu : Uq S.2.2.2 := hI.2.2.2.2
  have hrb : Rb S.2.2.2 := hB.2.2
  refine e_Law_law_511 _ _ _ _ _ ⟨L, w1, v1, e_Law_send_0 B _ _ ⟨hC.1.1, k_send hC hI (by omega) hR (fun q => ?_) (fun c hc ec σ' hC' hf => ?_)⟩⟩
  · rw [kHI_0, kI_i]
    have m := hW0.bad
    refine ⟨L, m.1, v1, m.z, ?_⟩
    rw [m.2.1]
    refine q_send m.2.2.2.1 hI (by omega) hB (fun _ σ2 M2 g2 f2 => ?_) (fun c hc ec => ?_)
    · rw [kI_i]
      exact tl_bad (by rw [f2.sh]; exact m.z) g2 (by decide) (e_Law_law_564 _ _ _ _ _ (hk σ2 S (m.fin M2 f2 (hI.mo (by omega)))))
    · rw [ec] at q; exact absurd q (ok8 hc)
  · rw [kHI_i]
    refine ⟨1, by rw [hf.sh]; exact w4, in_n (n := 0) (by decide) (by decide), fun σ2 e2 => ?_⟩
    have e2' : σ2 = uL σ' (B + 230) 0 ((spSend S c).2).toInt64 := e2
    have m := (hW0.mid hb hC' hf).out (v := ((spSend S c).2).toInt64)
    rw [← e2'] at m
    have hE : eL σ2 (B + 230) 0 = ((spSend S c).2).toInt64 := by rw [e2']; exact eL_s
    rw [kI_i]
    refine ⟨L, m.1, v1, m.z, ?_⟩
    rw [m.2.1, ec]
    refine q_send m.2.2.2.1 hI (by omega) hB (fun q => absurd q (ok8 hc)) (fun c' hc' ec' σ3 M3 g3 f3 => ?_)
    · have q1 := inj_n ec' (by omega) (by omega)
      subst q1
      rw [kI_i]
      have n3 := m.fin M3 f3 (hI.send (by omega) hc)
      exact tl_good (by rw [f3.sh]; exact m.z) g3 n3.2.2.2.1 (by rw [m.eL f3]; exact hE) (e_Law_law_564 _ _ _ _ _ (hk σ3 _ n3))
theorem w_queued {x4 : Int32} (hW : LW σ b L B t S) (hb : b < B) (ht : t < 512) (v1 : vp_in (x4 + 1) L) (v2 : vp_in (x4 + 2) L) (hk : ∀ σ' S', LW σ' b L B (t + 1) S' → PW 13 M_Law_law 976 [.ref b, .ref B, .ref (B + 188), .ref (B + 230), .int x4, uu, uu] [] σ' K) : PW 13 M_Law_law 642 [.ref b, .ref B, .ref (B + 188), .ref (B + 230), .int x4, uu, uu] [] σ K := by
  have hW0 := hW
  obtain ⟨w1, hC, hM, w4, hI, w6, w7⟩ := hW
  have hR : Rm σ := ⟨by omega, by omega⟩
  have hB := hC.bd hI.1 hI.2.1
  have hI1 := hI.1
  have hI2 := hI.2.1
  have hu : Uq S.2.2.2 := hI.2.2.2.2
  have hrb : Rb S.2.2.2 := hB.2.2
  refine e_Law_law_642 _ _ _ _ _ ⟨L, w1, v1, v2, e_Law_queued_0 B _ _ _ ⟨hC.1.1, k_queued hC hI1 hR (fun c p hc p1 p2 ec ep => ?_) (fun q => ?_)⟩⟩
  · rw [kHI_i]
    refine ⟨1, by  exact w4, in_n (n := 0) (by decide) (by decide), fun σ2 e2 => ?_⟩
    have e2' : σ2 = uL σ (B + 230) 0 (nI (qF S.2.1 c p S.2.1.length)).toInt64 := e2
    have m := (hW0.mid hb hC Fr.rf).out (v := (nI (qF S.2.1 c p S.2.1.length)).toInt64)
    rw [← e2'] at m
    have hE : eL σ2 (B + 230) 0 = (nI (qF S.2.1 c p S.2.1.length)).toInt64 := by rw [e2']; exact eL_s
    rw [kI_i]
    refine ⟨L, m.1, v1, v2, m.z, ?_⟩
    rw [m.2.1, m.2.1, ec, ep]
    refine q_queued m.2.2.2.1 hB.bt (fun q => ?_) (fun c' p' hc' p1' p2' ec' es' σ3 M3 g3 f3 => ?_)
    · rcases q with q | q
      · exact absurd q (ok8 hc)
      · exact absurd q (okG (lo := 1) (hi := 4) (by omega) (by omega) (by decide))
    · have q1 := inj_n ec' (by omega) (by omega)
      have q2 := inj_n es' (by omega) (by omega)
      subst q1 q2
      rw [kI_i]
      have n3 := m.fin M3 f3 (hI.mo (by omega))
      exact tl_good (by rw [f3.sh]; exact m.z) g3 n3.2.2.2.1 (by rw [m.eL f3]; exact hE) (e_Law_law_707 _ _ _ _ _ (hk σ3 _ n3))
  · rw [kHI_0, kI_i]
    have m := hW0.bad
    refine ⟨L, m.1, v1, v2, m.z, ?_⟩
    rw [m.2.1, m.2.1]
    refine q_queued m.2.2.2.1 hB.bt (fun _ σ2 M2 g2 f2 => ?_) (fun c p hc p1 p2 ec ep => ?_)
    · rw [kI_i]
      exact tl_bad (by rw [f2.sh]; exact m.z) g2 (by decide) (e_Law_law_707 _ _ _ _ _ (hk σ2 S (m.fin M2 f2 (hI.mo (by omega)))))
    · rw [ec, ep] at q
      rcases q with q | q
      · exact absurd q (ok8 hc)
      · exact absurd q (okG (lo := 1) (hi := 4) (by omega) (by omega) (by decide))
theorem w_trace {x4 : Int32} (hW : LW σ b L B t S) (hb : b < B) (ht : t < 512) (v1 : vp_in (x4 + 1) L) (v2 : vp_in (x4 + 2) L) (hk : ∀ σ' S', LW σ' b L B (t + 1) S' → PW 13 M_Law_law 976 [.ref b, .ref B, .ref (B + 188), .ref (B + 230), .int x4, uu, uu] [] σ' K) : PW 13 M_Law_law 710 [.ref b, .ref B, .ref (B + 188), .ref (B + 230), .int x4, uu, uu] [] σ K := by
  have hW0 := hW
  obtain ⟨w1, hC, hM, w4, hI, w6, w7⟩ := hW
  have hR : Rm σ := ⟨by omega, by omega⟩
  have hB := hC.bd hI.1 hI.2.1
  have hI1 := hI.1
  have hI2 := hI.2.1
  have hu : Uq S.2.2.2 := hI.2.2.2.2
  have hrb : Rb S.2.2.2 := hB.2.2
  refine e_Law_law_710 _ _ _ _ _ ⟨L, w1, v1, v2, e_Law_trace_0 B _ _ _ ⟨hC.1.1, k_trace hC hI1 hR (fun k c hc k1 k2 ek ec => ?_) (fun q => ?_)⟩⟩
  · rw [kHI_i]
    refine ⟨1, by  exact w4, in_n (n := 0) (by decide) (by decide), fun σ2 e2 => ?_⟩
    have e2' : σ2 = uL σ (B + 230) 0 (trI ((msg S.2.1 k).2.2.2 c)).toInt64 := e2
    have m := (hW0.mid hb hC Fr.rf).out (v := (trI ((msg S.2.1 k).2.2.2 c)).toInt64)
    rw [← e2'] at m
    have hE : eL σ2 (B + 230) 0 = (trI ((msg S.2.1 k).2.2.2 c)).toInt64 := by rw [e2']; exact eL_s
    rw [kI_i]
    refine ⟨L, m.1, v1, v2, m.z, ?_⟩
    rw [m.2.1, m.2.1, ek, ec]
    refine q_trace m.2.2.2.1 hB (fun q => ?_) (fun k' c' hc' k1' k2' ec' es' σ3 M3 g3 f3 => ?_)
    · rcases q with q | q
      · exact absurd q (okG (lo := 1) k1 k2 (by omega))
      · exact absurd q (ok8 hc)
    · have q1 := inj_n ec' (by omega) (by omega)
      have q2 := inj_n es' (by omega) (by omega)
      subst q1 q2
      rw [kI_i]
      have n3 := m.fin M3 f3 (hI.mo (by omega))
      exact tl_good (by rw [f3.sh]; exact m.z) g3 n3.2.2.2.1 (by rw [m.eL f3]; exact hE) (e_Law_law_775 _ _ _ _ _ (hk σ3 _ n3))
  · rw [kHI_0, kI_i]
    have m := hW0.bad
    refine ⟨L, m.1, v1, v2, m.z, ?_⟩
    rw [m.2.1, m.2.1]
    refine q_trace m.2.2.2.1 hB (fun _ σ2 M2 g2 f2 => ?_) (fun k c hc k1 k2 ek ec => ?_)
    · rw [kI_i]
      exact tl_bad (by rw [f2.sh]; exact m.z) g2 (by decide) (e_Law_law_775 _ _ _ _ _ (hk σ2 S (m.fin M2 f2 (hI.mo (by omega)))))
    · rw [ek, ec] at q
      rcases q with q | q
      · exact absurd q (okG (lo := 1) k1 k2 (by omega))
      · exact absurd q (ok8 hc)
theorem w_reason {x4 : Int32} (hW : LW σ b L B t S) (hb : b < B) (ht : t < 512) (v1 : vp_in (x4 + 1) L) (hk : ∀ σ' S', LW σ' b L B (t + 1) S' → PW 13 M_Law_law 976 [.ref b, .ref B, .ref (B + 188), .ref (B + 230), .int x4, uu, uu] [] σ' K) : PW 13 M_Law_law 778 [.ref b, .ref B, .ref (B + 188), .ref (B + 230), .int x4, uu, uu] [] σ K := by
  have hW0 := hW
  obtain ⟨w1, hC, hM, w4, hI, w6, w7⟩ := hW
  have hR : Rm σ := ⟨by omega, by omega⟩
  have hB := hC.bd hI.1 hI.2.1
  have hI1 := hI.1
  have hI2 := hI.2.1
  have hu : Uq S.2.2.2 := hI.2.2.2.2
  have hrb : Rb S.2.2.2 := hB.2.2
  refine e_Law_law_778 _ _ _ _ _ ⟨L, w1, v1, e_Law_reason_0 B _ _ ⟨hC.1.1, k_reason hC hI2 hR (fun k k1 k2 ek => ?_) (fun q => ?_)⟩⟩
  · rw [kHI_i]
    refine ⟨1, by  exact w4, in_n (n := 0) (by decide) (by decide), fun σ2 e2 => ?_⟩
    have e2' : σ2 = uL σ (B + 230) 0 (nI (S.2.2.1.getD (k - 1) (0, [])).1).toInt64 := e2
    have m := (hW0.mid hb hC Fr.rf).out (v := (nI (S.2.2.1.getD (k - 1) (0, [])).1).toInt64)
    rw [← e2'] at m
    have hE : eL σ2 (B + 230) 0 = (nI (S.2.2.1.getD (k - 1) (0, [])).1).toInt64 := by rw [e2']; exact eL_s
    rw [kI_i]
    refine ⟨L, m.1, v1, m.z, ?_⟩
    rw [m.2.1, ek]
    refine q_reason m.2.2.2.1 hI2 (fun q => absurd q (okG (lo := 1) k1 k2 (by omega))) (fun k' k1' k2' ec' σ3 M3 g3 f3 => ?_)
    · have q1 := inj_n ec' (by omega) (by omega)
      subst q1
      rw [kI_i]
      have n3 := m.fin M3 f3 (hI.mo (by omega))
      exact tl_good (by rw [f3.sh]; exact m.z) g3 n3.2.2.2.1 (by rw [m.eL f3]; exact hE) (e_Law_law_831 _ _ _ _ _ (hk σ3 _ n3))
  · rw [kHI_0, kI_i]
    have m := hW0.bad
    refine ⟨L, m.1, v1, m.z, ?_⟩
    rw [m.2.1]
    refine q_reason m.2.2.2.1 hI2 (fun _ σ2 M2 g2 f2 => ?_) (fun k k1 k2 ek => ?_)
    · rw [kI_i]
      exact tl_bad (by rw [f2.sh]; exact m.z) g2 (by decide) (e_Law_law_831 _ _ _ _ _ (hk σ2 S (m.fin M2 f2 (hI.mo (by omega)))))
    · rw [ek] at q; exact absurd q (okG (lo := 1) k1 k2 (by omega))
theorem w_group {x4 : Int32} (hW : LW σ b L B t S) (hb : b < B) (ht : t < 512) (v1 : vp_in (x4 + 1) L) (v2 : vp_in (x4 + 2) L) (hk : ∀ σ' S', LW σ' b L B (t + 1) S' → PW 13 M_Law_law 976 [.ref b, .ref B, .ref (B + 188), .ref (B + 230), .int x4, uu, uu] [] σ' K) : PW 13 M_Law_law 352 [.ref b, .ref B, .ref (B + 188), .ref (B + 230), .int x4, uu, uu] [] σ K := by
  have hW0 := hW
  obtain ⟨w1, hC, hM, w4, hI, w6, w7⟩ := hW
  have hR : Rm σ := ⟨by omega, by omega⟩
  have hB := hC.bd hI.1 hI.2.1
  have hI1 := hI.1
  have hI2 := hI.2.1
  have hu : Uq S.2.2.2 := hI.2.2.2.2
  have hrb : Rb S.2.2.2 := hB.2.2
  refine e_Law_law_352 _ _ _ _ _ ⟨L, w1, v1, v2, e_Law_group_0 B _ _ _ ⟨hC.1.1, k_group hC hR (fun q => ?_) (fun i k hi hkk ei ek => ⟨fun qb => ?_, fun qb qf => ?_, fun qb qf σ' hC' hf => ?_⟩)⟩⟩
  · rw [kHI_0, kI_i]
    have m := hW0.bad
    refine ⟨L, m.1, v1, v2, m.z, ?_⟩
    rw [m.2.1, m.2.1]
    refine q_group m.2.2.2.1 hu hrb (fun _ σ2 M2 g2 f2 => ?_) (fun i k hi hkk ei ek => ?_)
    · rw [kI_i]
      exact tl_bad (by rw [f2.sh]; exact m.z) g2 (by decide) (e_Law_law_417 _ _ _ _ _ (hk σ2 S (m.fin M2 f2 (hI.mo (by omega)))))
    · rw [ei, ek] at q
      rcases q with q | q
      · exact absurd q (okG (lo := 0) (hi := 456975) (by omega) (by omega) (by decide))
      · exact absurd q (okG (lo := 0) (hi := 456975) (by omega) (by omega) (by decide))
  · rw [kHI_0, kI_i]
    have m := hW0.bad
    refine ⟨L, m.1, v1, v2, m.z, ?_⟩
    rw [m.2.1, m.2.1, ei, ek]
    refine q_group m.2.2.2.1 hu hrb (fun q => ?_) (fun i' k' hi' hkk' ec' es' => ?_)
    · rcases q with q | q
      · exact absurd q (okG (lo := 0) (hi := 456975) (by omega) (by omega) (by decide))
      · exact absurd q (okG (lo := 0) (hi := 456975) (by omega) (by omega) (by decide))
    · have q1 := inj_n ec' (by omega) (by omega)
      have q2 := inj_n es' (by omega) (by omega)
      subst q1 q2
      refine ⟨fun _ σ2 M2 g2 f2 => ?_, fun z => absurd qb z, fun z => absurd qb z⟩
      rw [kI_i]
      exact tl_bad (by rw [f2.sh]; exact m.z) g2 (by decide) (e_Law_law_417 _ _ _ _ _ (hk σ2 S (m.fin M2 f2 (hI.mo (by omega)))))
  · rw [kHI_1, kI_i]
    have m := hW0.bad
    refine ⟨L, m.1, v1, v2, m.z, ?_⟩
    rw [m.2.1, m.2.1, ei, ek]
    refine q_group m.2.2.2.1 hu hrb (fun q => ?_) (fun i' k' hi' hkk' ec' es' => ?_)
    · rcases q with q | q
      · exact absurd q (okG (lo := 0) (hi := 456975) (by omega) (by omega) (by decide))
      · exact absurd q (okG (lo := 0) (hi := 456975) (by omega) (by omega) (by decide))
    · have q1 := inj_n ec' (by omega) (by omega)
      have q2 := inj_n es' (by omega) (by omega)
      subst q1 q2
      refine ⟨fun z => absurd z qb, fun _ _ σ2 M2 g2 f2 => ?_, fun _ z => absurd qf z⟩
      rw [kI_i]
      exact tl_bad (by rw [f2.sh]; exact m.z) g2 (by decide) (e_Law_law_417 _ _ _ _ _ (hk σ2 S (m.fin M2 f2 (hI.mo (by omega)))))
  · rw [kHI_i]
    refine ⟨1, by rw [hf.sh]; exact w4, in_n (n := 0) (by decide) (by decide), fun σ2 e2 => ?_⟩
    have e2' : σ2 = uL σ' (B + 230) 0 (nI (gpN S.2.2.2 i)).toInt64 := e2
    have m := (hW0.mid hb hC' hf).out (v := (nI (gpN S.2.2.2 i)).toInt64)
    rw [← e2'] at m
    have hE : eL σ2 (B + 230) 0 = (nI (gpN S.2.2.2 i)).toInt64 := by rw [e2']; exact eL_s
    rw [kI_i]
    refine ⟨L, m.1, v1, v2, m.z, ?_⟩
    rw [m.2.1, m.2.1, ei, ek]
    refine q_group m.2.2.2.1 hu hrb (fun q => ?_) (fun i' k' hi' hkk' ec' es' => ?_)
    · rcases q with q | q
      · exact absurd q (okG (lo := 0) (hi := 456975) (by omega) (by omega) (by decide))
      · exact absurd q (okG (lo := 0) (hi := 456975) (by omega) (by omega) (by decide))
    · have q1 := inj_n ec' (by omega) (by omega)
      have q2 := inj_n es' (by omega) (by omega)
      subst q1 q2
      refine ⟨fun z => absurd z qb, fun _ z => absurd z qf, fun _ _ σ3 M3 g3 f3 => ?_⟩
      rw [kI_i]
      have n3 := m.fin M3 f3 ((hI.group qf).mo (by omega))
      exact tl_good (by rw [f3.sh]; exact m.z) g3 n3.2.2.2.1 (by rw [m.eL f3]; exact hE) (e_Law_law_417 _ _ _ _ _ (hk σ3 _ n3))
theorem w_route {x4 : Int32} (hW : LW σ b L B t S) (hb : b < B) (ht : t < 512) (v1 : vp_in (x4 + 1) L) (v2 : vp_in (x4 + 2) L) (v3 : vp_in (x4 + 3) L) (hk : ∀ σ' S', LW σ' b L B (t + 1) S' → PW 13 M_Law_law 976 [.ref b, .ref B, .ref (B + 188), .ref (B + 230), .int x4, uu, uu] [] σ' K) : PW 13 M_Law_law 292 [.ref b, .ref B, .ref (B + 188), .ref (B + 230), .int x4, uu, uu] [] σ K := by
  have hW0 := hW
  obtain ⟨w1, hC, hM, w4, hI, w6, w7⟩ := hW
  have hR : Rm σ := ⟨by omega, by omega⟩
  have hB := hC.bd hI.1 hI.2.1
  have hI1 := hI.1
  have hI2 := hI.2.1
  have hu : Uq S.2.2.2 := hI.2.2.2.2
  have hrb : Rb S.2.2.2 := hB.2.2
  refine e_Law_law_292 _ _ _ _ _ ⟨L, w1, v1, v2, v3, e_Law_route_0 B _ _ _ ⟨hC.1.1, k_route hC hR (fun q => ?_) (fun i c a hi hc ha ei ec ea => ⟨fun qb => ?_, fun qb qf => ?_, fun qb qf σ' hC' hf => ?_⟩)⟩⟩
  · rw [kHV_0, kI_i]
    have m := hW0.bad
    refine ⟨L, m.1, v1, v2, v3, m.z, ?_⟩
    rw [m.2.1, m.2.1, m.2.1]
    refine q_route m.2.2.2.1 hu hrb (fun _ σ2 M2 g2 f2 => ?_) (fun i c a hi hc ha ei ec ea => ?_)
    · rw [kV_v]
      exact tl_void (by rw [f2.sh]; exact m.z) g2 (hk σ2 S (m.fin M2 f2 (hI.mo (by omega))))
    · rw [ei, ec, ea] at q
      rcases q with q | q | q
      · exact absurd q (okG (lo := 0) (hi := 456975) (by omega) (by omega) (by decide))
      · exact absurd q (ok8 hc)
      · exact absurd q (ok8 ha)
  · rw [kHV_0, kI_i]
    have m := hW0.bad
    refine ⟨L, m.1, v1, v2, v3, m.z, ?_⟩
    rw [m.2.1, m.2.1, m.2.1, ei, ec, ea]
    refine q_route m.2.2.2.1 hu hrb (fun q => ?_) (fun i' c' a' hi' hc' ha' ec' es' et' => ?_)
    · rcases q with q | q | q
      · exact absurd q (okG (lo := 0) (hi := 456975) (by omega) (by omega) (by decide))
      · exact absurd q (ok8 hc)
      · exact absurd q (ok8 ha)
    · have q1 := inj_n ec' (by omega) (by omega)
      have q2 := inj_n es' (by omega) (by omega)
      have q3 := inj_n et' (by omega) (by omega)
      subst q1 q2 q3
      refine ⟨fun _ σ2 M2 g2 f2 => ?_, fun z => absurd qb z, fun z => absurd qb z⟩
      rw [kV_v]
      exact tl_void (by rw [f2.sh]; exact m.z) g2 (hk σ2 S (m.fin M2 f2 (hI.mo (by omega))))
  · rw [kHV_1, kI_i]
    have m := hW0.bad
    refine ⟨L, m.1, v1, v2, v3, m.z, ?_⟩
    rw [m.2.1, m.2.1, m.2.1, ei, ec, ea]
    refine q_route m.2.2.2.1 hu hrb (fun q => ?_) (fun i' c' a' hi' hc' ha' ec' es' et' => ?_)
    · rcases q with q | q | q
      · exact absurd q (okG (lo := 0) (hi := 456975) (by omega) (by omega) (by decide))
      · exact absurd q (ok8 hc)
      · exact absurd q (ok8 ha)
    · have q1 := inj_n ec' (by omega) (by omega)
      have q2 := inj_n es' (by omega) (by omega)
      have q3 := inj_n et' (by omega) (by omega)
      subst q1 q2 q3
      refine ⟨fun z => absurd z qb, fun _ _ σ2 M2 g2 f2 => ?_, fun _ z => absurd qf z⟩
      rw [kV_v]
      exact tl_void (by rw [f2.sh]; exact m.z) g2 (hk σ2 S (m.fin M2 f2 (hI.mo (by omega))))
  · rw [kHV_v, kI_i]
    have m := hW0.mid hb hC' hf
    refine ⟨L, m.1, v1, v2, v3, m.z, ?_⟩
    rw [m.2.1, m.2.1, m.2.1, ei, ec, ea]
    refine q_route m.2.2.2.1 hu hrb (fun q => ?_) (fun i' c' a' hi' hc' ha' ec' es' et' => ?_)
    · rcases q with q | q | q
      · exact absurd q (okG (lo := 0) (hi := 456975) (by omega) (by omega) (by decide))
      · exact absurd q (ok8 hc)
      · exact absurd q (ok8 ha)
    · have q1 := inj_n ec' (by omega) (by omega)
      have q2 := inj_n es' (by omega) (by omega)
      have q3 := inj_n et' (by omega) (by omega)
      subst q1 q2 q3
      refine ⟨fun z => absurd z qb, fun _ z => absurd z qf, fun _ _ σ3 M3 g3 f3 => ?_⟩
      rw [kV_v]
      have n3 := m.fin M3 f3 ((hI.route qf).mo (by omega))
      exact tl_void (by rw [f3.sh]; exact m.z) g3 (hk σ3 _ n3)
theorem w_resubmit {x4 : Int32} (hW : LW σ b L B t S) (hb : b < B) (ht : t < 512) (v1 : vp_in (x4 + 1) L) (hk : ∀ σ' S', LW σ' b L B (t + 1) S' → PW 13 M_Law_law 976 [.ref b, .ref B, .ref (B + 188), .ref (B + 230), .int x4, uu, uu] [] σ' K) : PW 13 M_Law_law 884 [.ref b, .ref B, .ref (B + 188), .ref (B + 230), .int x4, uu, uu] [] σ K := by
  have hW0 := hW
  obtain ⟨w1, hC, hM, w4, hI, w6, w7⟩ := hW
  have hR : Rm σ := ⟨by omega, by omega⟩
  have hB := hC.bd hI.1 hI.2.1
  have hI1 := hI.1
  have hI2 := hI.2.1
  have hu : Uq S.2.2.2 := hI.2.2.2.2
  have hrb : Rb S.2.2.2 := hB.2.2
  refine e_Law_law_884 _ _ _ _ _ ⟨L, w1, v1, e_Law_resubmit_0 B _ _ ⟨hC.1.1, k_resubmit hC hI hR (fun q => ?_) (fun i i1 i2 ei qs => ?_) (fun i i1 i2 ei h0 h10 σ' hC' hf => ?_)⟩⟩
  · rw [kHI_0, kI_i]
    have m := hW0.bad
    refine ⟨L, m.1, v1, m.z, ?_⟩
    rw [m.2.1]
    refine q_resubmit m.2.2.2.1 hI hB (fun _ σ2 M2 g2 f2 => ?_) (fun i i1 i2 ei => ?_) (fun i i1 i2 ei => ?_)
    · rw [kI_i]
      exact tl_bad (by rw [f2.sh]; exact m.z) g2 (by decide) (e_Law_law_937 _ _ _ _ _ (hk σ2 S (m.fin M2 f2 (hI.mo (by omega)))))
    · rw [ei] at q; exact absurd q (okG (lo := 1) i1 i2 (by omega))
    · rw [ei] at q; exact absurd q (okG (lo := 1) i1 i2 (by omega))
  · rw [kHI_1, kI_i]
    have m := hW0.bad
    refine ⟨L, m.1, v1, m.z, ?_⟩
    rw [m.2.1, ei]
    refine q_resubmit m.2.2.2.1 hI hB (fun q => absurd q (okG (lo := 1) i1 i2 (by omega))) (fun i' i1' i2' ec' _ σ2 M2 g2 f2 => ?_) (fun i' i1' i2' ec' h0 h10 => ?_)
    · rw [kI_i]
      exact tl_bad (by rw [f2.sh]; exact m.z) g2 (by decide) (e_Law_law_937 _ _ _ _ _ (hk σ2 S (m.fin M2 f2 (hI.mo (by omega)))))
    · have q1 := inj_n ec' (by omega) (by omega)
      subst q1
      rcases qs with qs | qs
      · exact absurd qs h0
      · omega
  · rw [kHI_i]
    refine ⟨1, by rw [hf.sh]; exact w4, in_n (n := 0) (by decide) (by decide), fun σ2 e2 => ?_⟩
    have e2' : σ2 = uL σ' (B + 230) 0 (nI (spResub S (i - 1)).2).toInt64 := e2
    have m := (hW0.mid hb hC' hf).out (v := (nI (spResub S (i - 1)).2).toInt64)
    rw [← e2'] at m
    have hE : eL σ2 (B + 230) 0 = (nI (spResub S (i - 1)).2).toInt64 := by rw [e2']; exact eL_s
    rw [kI_i]
    refine ⟨L, m.1, v1, m.z, ?_⟩
    rw [m.2.1, ei]
    refine q_resubmit m.2.2.2.1 hI hB (fun q => absurd q (okG (lo := 1) i1 i2 (by omega))) (fun i' i1' i2' ec' qs => ?_) (fun i' i1' i2' ec' _ _ σ3 M3 g3 f3 => ?_)
    · have q1 := inj_n ec' (by omega) (by omega)
      subst q1
      rcases qs with qs | qs
      · exact absurd qs h0
      · omega
    · have q1 := inj_n ec' (by omega) (by omega)
      subst q1
      rw [kI_i]
      have n3 := m.fin M3 f3 ((hI.resub h10).mo (by omega))
      exact tl_good (by rw [f3.sh]; exact m.z) g3 n3.2.2.2.1 (by rw [m.eL f3]; exact hE) (e_Law_law_937 _ _ _ _ _ (hk σ3 _ n3))
theorem w_clerk {x4 : Int32} (hW : LW σ b L B t S) (hb : b < B) (ht : t < 512) (v1 : vp_in (x4 + 1) L) (v2 : vp_in (x4 + 2) L) (hk : ∀ σ' S', LW σ' b L B (t + 1) S' → PW 13 M_Law_law 976 [.ref b, .ref B, .ref (B + 188), .ref (B + 230), .int x4, uu, uu] [] σ' K) : PW 13 M_Law_law 834 [.ref b, .ref B, .ref (B + 188), .ref (B + 230), .int x4, uu, uu] [] σ K := by
  have hW0 := hW
  obtain ⟨w1, hC, hM, w4, hI, w6, w7⟩ := hW
  have hR : Rm σ := ⟨by omega, by omega⟩
  have hB := hC.bd hI.1 hI.2.1
  have hI1 := hI.1
  have hI2 := hI.2.1
  have hu : Uq S.2.2.2 := hI.2.2.2.2
  have hrb : Rb S.2.2.2 := hB.2.2
  obtain ⟨ch, hch, ech⟩ : ∃ ch : Nat, ch < 65536 ∧ ((eI σ b (ix (x4 + 2))).toUInt32 % 65536).toInt32 = nI ch := i2c_any _
  refine e_Law_law_834 _ _ _ _ _ ⟨L, w1, v1, v2, ?_⟩
  rw [ech]
  refine e_Law_clerk_0 B _ _ ⟨hC.1.1, k_clerk hC hI2 hch hR (fun q => ?_) (fun i i1 i2 ei hs qs => ?_) (fun i i1 i2 ei hs h0 h60 σ' hC' hf => ?_)⟩
  · rw [kHV_0, kI_i]
    have m := hW0.bad
    refine ⟨L, m.1, v1, v2, m.z, ?_⟩
    rw [m.2.1, m.2.1, ech]
    refine q_clerk m.2.2.2.1 hI2 hB hch (fun _ σ2 M2 g2 f2 => ?_) (fun i i1 i2 ei hs => ?_) (fun i i1 i2 ei hs => ?_)
    · rw [kV_v]
      exact tl_void (by rw [f2.sh]; exact m.z) g2 (hk σ2 S (m.fin M2 f2 (hI.mo (by omega))))
    · rw [ei] at q
      rcases q with q | q
      · exact absurd q (okG (lo := 1) i1 i2 (by omega))
      · exact absurd hs q
    · rw [ei] at q
      rcases q with q | q
      · exact absurd q (okG (lo := 1) i1 i2 (by omega))
      · exact absurd hs q
  · rw [kHV_1, kI_i]
    have m := hW0.bad
    refine ⟨L, m.1, v1, v2, m.z, ?_⟩
    rw [m.2.1, m.2.1, ech, ei]
    refine q_clerk m.2.2.2.1 hI2 hB hch (fun q => ?_) (fun i' i1' i2' ec' _ _ σ2 M2 g2 f2 => ?_) (fun i' i1' i2' ec' _ h0 h60 => ?_)
    · rcases q with q | q
      · exact absurd q (okG (lo := 1) i1 i2 (by omega))
      · exact absurd hs q
    · rw [kV_v]
      exact tl_void (by rw [f2.sh]; exact m.z) g2 (hk σ2 S (m.fin M2 f2 (hI.mo (by omega))))
    · have q1 := inj_n ec' (by omega) (by omega)
      subst q1
      rcases qs with qs | qs
      · exact absurd qs h0
      · omega
  · rw [kHV_v, kI_i]
    have m := hW0.mid hb hC' hf
    refine ⟨L, m.1, v1, v2, m.z, ?_⟩
    rw [m.2.1, m.2.1, ech, ei]
    refine q_clerk m.2.2.2.1 hI2 hB hch (fun q => ?_) (fun i' i1' i2' ec' _ qs => ?_) (fun i' i1' i2' ec' _ _ _ σ3 M3 g3 f3 => ?_)
    · rcases q with q | q
      · exact absurd q (okG (lo := 1) i1 i2 (by omega))
      · exact absurd hs q
    · have q1 := inj_n ec' (by omega) (by omega)
      subst q1
      rcases qs with qs | qs
      · exact absurd qs h0
      · omega
    · have q1 := inj_n ec' (by omega) (by omega)
      subst q1
      rw [kV_v]
      have n3 := m.fin M3 f3 ((hI.cas (by rw [List.length_set]; exact hI2)).mo (by omega))
      exact tl_void (by rw [f3.sh]; exact m.z) g3 (hk σ3 _ n3)
theorem w_cut {x4 : Int32} (hW : LW σ b L B t S) (hb : b < B) (ht : t < 512)  (hk : ∀ σ' S', LW σ' b L B (t + 1) S' → PW 13 M_Law_law 976 [.ref b, .ref B, .ref (B + 188), .ref (B + 230), .int x4, uu, uu] [] σ' K) : PW 13 M_Law_law 940 [.ref b, .ref B, .ref (B + 188), .ref (B + 230), .int x4, uu, uu] [] σ K := by
  have hW0 := hW
  obtain ⟨w1, hC, hM, w4, hI, w6, w7⟩ := hW
  have hR : Rm σ := ⟨by omega, by omega⟩
  have hB := hC.bd hI.1 hI.2.1
  have hI1 := hI.1
  have hI2 := hI.2.1
  have hu : Uq S.2.2.2 := hI.2.2.2.2
  have hrb : Rb S.2.2.2 := hB.2.2
  refine e_Law_law_940 _ _ _ _ _ ⟨hC.1.1, k_cut hC (fun σ' hC' hf => ?_)⟩
  rw [kV_v]
  have m := hW0.mid hb hC' hf
  refine ⟨m.z, q_cut m.2.2.2.1 (fun σ3 M3 g3 f3 => ?_)⟩
  rw [kV_v]
  exact hk σ3 _ (m.fin M3 f3 (hI.cut.mo (by omega)))
theorem w_count {x4 : Int32} (hW : LW σ b L B t S) (hb : b < B) (ht : t < 512) (v1 : vp_in (x4 + 1) L) (hk : ∀ σ' S', LW σ' b L B (t + 1) S' → PW 13 M_Law_law 976 [.ref b, .ref B, .ref (B + 188), .ref (B + 230), .int x4, uu, uu] [] σ' K) : PW 13 M_Law_law 951 [.ref b, .ref B, .ref (B + 188), .ref (B + 230), .int x4, uu, uu] [] σ K := by
  have hW0 := hW
  obtain ⟨w1, hC, hM, w4, hI, w6, w7⟩ := hW
  have hR : Rm σ := ⟨by omega, by omega⟩
  have hB := hC.bd hI.1 hI.2.1
  have hI1 := hI.1
  have hI2 := hI.2.1
  have hu : Uq S.2.2.2 := hI.2.2.2.2
  have hrb : Rb S.2.2.2 := hB.2.2
  refine e_Law_law_951 _ _ _ _ _ ⟨L, w1, v1, hC.1.1, k_count hC hI2 ?_⟩
  rw [kI_i]
  have m := hW0.mid hb hC Fr.rf
  refine ⟨L, m.1, v1, m.z, q_count m.2.2.2.1 hB (fun σ3 M3 g3 f3 => ?_)⟩
  rw [kI_i, if_pos rfl]
  exact hk σ3 _ (m.fin M3 f3 (hI.mo (by omega)))
theorem w_open {x4 : Int32} (hW : LW σ b L B t S) (hb : b < B) (ht : t < 512) (v1 : vp_in (x4 + 1) L) (v2 : vp_in (x4 + 2) L) (hk : ∀ σ' S', LW σ' b L B (t + 1) S' → PW 13 M_Law_law 976 [.ref b, .ref B, .ref (B + 188), .ref (B + 230), .int x4, uu, uu] [] σ' K) : PW 13 M_Law_law 420 [.ref b, .ref B, .ref (B + 188), .ref (B + 230), .int x4, uu, uu] [] σ K := by
  have hW0 := hW
  obtain ⟨w1, hC, hM, w4, hI, w6, w7⟩ := hW
  have hR : Rm σ := ⟨by omega, by omega⟩
  have hB := hC.bd hI.1 hI.2.1
  have hI1 := hI.1
  have hI2 := hI.2.1
  have hu : Uq S.2.2.2 := hI.2.2.2.2
  have hrb : Rb S.2.2.2 := hB.2.2
  have step : ∀ is : Bool, (is = true ↔ ¬ eI σ b (ix (x4 + 2)) = 0) → PW 13 M_Law_law 441 [.ref b, .ref B, .ref (B + 188), .ref (B + 230), .int x4, uu, uu] [.int (nI is.toNat), .int (eI σ b (ix (x4 + 1))), .ref B] σ K := by
    intro is his
    have mod : ∀ (σ1 : PH) (r : Int32) (S' : SP), LM σ1 σ b L B t S S' → (PW 13 M_Law_law 468 [.ref b, .ref B, .ref (B + 188), .ref (B + 230), .int x4, .int r, uu] [.int (nI is.toNat), .int (eI σ b (ix (x4 + 1))), .ref (B + 188)] σ1 K) → (∃ n1 : Nat, sh σ1 b = (10, n1) ∧ vp_in (x4 + 1) n1 ∧ vp_in (x4 + 2) n1 ∧ (if (eI σ1 b (ix (x4 + 2))) = 0 then PW 13 M_Law_law 468 [.ref b, .ref B, .ref (B + 188), .ref (B + 230), .int x4, .int r, uu] [.int 0, .int (eI σ1 b (ix (x4 + 1))), .ref (B + 188)] σ1 K else PW 13 M_Law_law 468 [.ref b, .ref B, .ref (B + 188), .ref (B + 230), .int x4, .int r, uu] [.int 1, .int (eI σ1 b (ix (x4 + 1))), .ref (B + 188)] σ1 K)) := by
      intro σ1 r S' m hP
      refine ⟨L, m.1, v1, v2, ?_⟩
      rw [m.2.1, m.2.1]
      cases is with
      | true => rw [if_neg (his.mp rfl)]; exact hP
      | false =>
        have hz : eI σ b (ix (x4 + 2)) = 0 := by
          by_cases h : eI σ b (ix (x4 + 2)) = 0
          · exact h
          · exact absurd (his.mpr h) (by decide)
        rw [if_pos hz]; exact hP
    refine e_Law_law_441 _ _ _ _ _ _ _ _ (e_Law_open_0 B _ _ _ ⟨hC.1.1, k_open hC hR (fun c σ' hc ec hC' hf => ?_) (fun q => ?_)⟩)
    · rw [kHI_i]
      have go : ∀ v : Int64, v = (if sOp (S.1 c) = true then 1 else 0) → ∀ σ2, σ2 = uL σ' (B + 230) 0 v → (kI (fun r1 σ1 => (∃ n1 : Nat, sh σ1 b = (10, n1) ∧ vp_in (x4 + 1) n1 ∧ vp_in (x4 + 2) n1 ∧ (if (eI σ1 b (ix (x4 + 2))) = 0 then PW 13 M_Law_law 468 [.ref b, .ref B, .ref (B + 188), .ref (B + 230), .int x4, .int r1, uu] [.int 0, .int (eI σ1 b (ix (x4 + 1))), .ref (B + 188)] σ1 K else PW 13 M_Law_law 468 [.ref b, .ref B, .ref (B + 188), .ref (B + 230), .int x4, .int r1, uu] [.int 1, .int (eI σ1 b (ix (x4 + 1))), .ref (B + 188)] σ1 K))) K) (.inl (some (.int 0))) σ2 := by
        intro v hv σ2 e2
        have m := (hW0.mid hb hC' hf).out (v := v)
        rw [← e2] at m
        have hE : eL σ2 (B + 230) 0 = v := by rw [e2]; exact eL_s
        rw [kI_i]
        refine mod σ2 0 _ m (e_Law_law_468 _ _ _ _ _ _ _ _ _ ⟨m.z, ?_⟩)
        rw [ec]
        refine q_open m.2.2.2.1 (fun q => absurd q (ok8 hc)) (fun c' hc' ec' σ3 M3 g3 f3 => ?_)
        have q1 := inj_n ec' (by omega) (by omega)
        subst q1
        have n3 := m.fin M3 f3 ((hI.opn hc).mo (by omega))
        have z3 : sh σ3 (B + 188) = (1, 11) := by rw [f3.sh]; exact m.z
        have E3 : eL σ3 (B + 230) (ix 0) = v := by have := m.eL f3; rw [hE] at this; exact this
        rw [kI_i]
        refine ⟨z3, e_Mod_thrown_0 _ ⟨z3, ?_⟩⟩
        rw [kI_i, g3, if_pos (show nI 0 = (0 : Int32) by decide), if_pos rfl]
        refine ⟨1, n3.2.2.2.1, in_n (n := 0) (by decide) (by decide), ?_⟩
        rw [E3, hv]
        cases hop : sOp (S.1 c') with
        | true =>
          rw [if_neg (by decide), if_pos rfl]
          refine e_Law_law_502 _ _ _ _ _ _ _ ?_
          rw [lg_self, if_pos rfl]
          exact e_Law_law_508 _ _ _ _ _ (hk σ3 _ n3)
        | false =>
          rw [if_pos (by decide), if_neg (by decide)]
          refine e_Law_law_502 _ _ _ _ _ _ _ ?_
          rw [lg_self, if_pos rfl]
          exact e_Law_law_508 _ _ _ _ _ (hk σ3 _ n3)
      cases hop : sOp (S.1 c) with
      | true =>
        rw [if_neg (by decide)]
        exact ⟨1, by rw [hf.sh]; exact w4, in_n (n := 0) (by decide) (by decide), fun σ2 e2 => go 1 (by rw [hop, if_pos rfl]) σ2 e2⟩
      | false =>
        rw [if_pos (by decide)]
        exact ⟨1, by rw [hf.sh]; exact w4, in_n (n := 0) (by decide) (by decide), fun σ2 e2 => go 0 (by rw [hop, if_neg (by decide)]) σ2 e2⟩
    · rw [kHI_0, kI_i]
      have m := hW0.bad
      refine mod _ 1 _ m (e_Law_law_468 _ _ _ _ _ _ _ _ _ ⟨m.z, ?_⟩)
      refine q_open m.2.2.2.1 (fun _ σ2 M2 g2 f2 => ?_) (fun c hc ec => ?_)
      · rw [kI_i]
        have z3 : sh σ2 (B + 188) = (1, 11) := by rw [f2.sh]; exact m.z
        refine ⟨z3, e_Mod_thrown_0 _ ⟨z3, ?_⟩⟩
        rw [kI_i, g2, if_pos (show nI 1 = (1 : Int32) by decide), if_neg (by decide)]
        exact e_Law_law_508 _ _ _ _ _ (hk σ2 S (m.fin M2 f2 (hI.mo (by omega))))
      · rw [ec] at q; exact absurd q (ok8 hc)
  refine e_Law_law_420 _ _ _ _ _ ⟨L, w1, v1, v2, ?_⟩
  by_cases h0 : eI σ b (ix (x4 + 2)) = 0
  · rw [if_pos h0]; exact step false ⟨fun q => absurd q (by decide), fun q => absurd h0 q⟩
  · rw [if_neg h0]; exact step true ⟨fun _ => h0, fun _ => rfl⟩
theorem w_rerun {x4 : Int32} (hW : LW σ b L B t S) (hb : b < B) (ht : t < 512) (v1 : vp_in (x4 + 1) L) (v2 : vp_in (x4 + 2) L) (hk : ∀ σ' S', LW σ' b L B (t + 1) S' → PW 13 M_Law_law 976 [.ref b, .ref B, .ref (B + 188), .ref (B + 230), .int x4, uu, uu] [] σ' K) : PW 13 M_Law_law 567 [.ref b, .ref B, .ref (B + 188), .ref (B + 230), .int x4, uu, uu] [] σ K := by
  have hW0 := hW
  obtain ⟨w1, hC, hM, w4, hI, w6, w7⟩ := hW
  have hR : Rm σ := ⟨by omega, by omega⟩
  have hB := hC.bd hI.1 hI.2.1
  have hI1 := hI.1
  have hI2 := hI.2.1
  have hu : Uq S.2.2.2 := hI.2.2.2.2
  have hrb : Rb S.2.2.2 := hB.2.2
  refine e_Law_law_567 _ _ _ _ _ ⟨L, w1, v1, v2, e_Law_rerun_0 B _ _ _ ⟨hC.1.1, k_rerun hC hI hR (fun q => ?_) (fun c k hc ec k1 k2 ek h3 => ?_) (fun c k hc ec k1 k2 ek h3 σ' hC' hf => ?_)⟩⟩
  · rw [kHI_0, kI_i]
    have m := hW0.bad
    refine ⟨L, m.1, v1, v2, m.z, ?_⟩
    rw [m.2.1, m.2.1]
    refine q_rerun m.2.2.2.1 hI (by omega) (fun _ σ2 M2 g2 f2 => ?_) (fun c k hc ec k1 k2 ek => ?_) (fun c k hc ec k1 k2 ek => ?_)
    · rw [kI_i]
      exact tl_bad (by rw [f2.sh]; exact m.z) g2 (by decide) (e_Law_law_639 _ _ _ _ _ (hk σ2 S (m.fin M2 f2 (hI.mo (by omega)))))
    · rw [ec, ek] at q
      rcases q with q | q
      · exact absurd q (ok8 hc)
      · exact absurd q (okG (lo := 1) (hi := 999) k1 k2 (by decide))
    · rw [ec, ek] at q
      rcases q with q | q
      · exact absurd q (ok8 hc)
      · exact absurd q (okG (lo := 1) (hi := 999) k1 k2 (by decide))
  · rw [kHI_1, kI_i]
    have m := hW0.bad
    refine ⟨L, m.1, v1, v2, m.z, ?_⟩
    rw [m.2.1, m.2.1, ec, ek]
    refine q_rerun m.2.2.2.1 hI (by omega) (fun q => ?_) (fun c' k' hc' ec' k1' k2' es' _ σ2 M2 g2 f2 => ?_) (fun c' k' hc' ec' k1' k2' es' hl => ?_)
    · rcases q with q | q
      · exact absurd q (ok8 hc)
      · exact absurd q (okG (lo := 1) (hi := 999) k1 k2 (by decide))
    · rw [kI_i]
      exact tl_bad (by rw [f2.sh]; exact m.z) g2 (by decide) (e_Law_law_639 _ _ _ _ _ (hk σ2 S (m.fin M2 f2 (hI.mo (by omega)))))
    · have q1 := inj_n ec' (by omega) (by omega)
      subst q1
      omega
  · rw [kHI_i]
    have go : ∀ v : Int64, v = (if (spRerun S c k).2 = 1 then 1 else 0) → ∀ σ2, σ2 = uL σ' (B + 230) 0 v → LM σ2 σ b L B t S (spRerun S c k).1 ∧ eL σ2 (B + 230) 0 = v := by
      intro v hv σ2 e2
      have m := (hW0.mid hb hC' hf).out (v := v)
      rw [← e2] at m
      exact ⟨m, by rw [e2]; exact eL_s⟩
    have hres : (spRerun S c k).2 = 0 ∨ (spRerun S c k).2 = 1 := by
      unfold spRerun
      split
      · exact Or.inl rfl
      · exact Or.inr rfl
    have fin : ∀ (σ2 : PH) (v : Int64), v = (if (spRerun S c k).2 = 1 then 1 else 0) → LM σ2 σ b L B t S (spRerun S c k).1 → eL σ2 (B + 230) 0 = v → PW 12 M_Mod_rerun 0 [.ref (B + 188), .int (nI c), .int (nI k), uu, uu, uu] [] σ2 (kI (fun r2 σ2 => sh σ2 (B + 188) = (1, 11) ∧ PW 12 M_Mod_thrown 0 [.ref (B + 188)] [] σ2 (kI (fun r3 σ3 => (if r3 = 0 then (if (0 : Int32) = 0 then (∃ n3 : Nat, sh σ3 (B + 230) = (5, n3) ∧ vp_in 0 n3 ∧ (if r2 = 0 then PW 13 M_Law_law 633 [.ref b, .ref B, .ref (B + 188), .ref (B + 230), .int x4, uu, uu] [.long 0, .long (eL σ3 (B + 230) (ix 0))] σ3 K else PW 13 M_Law_law 633 [.ref b, .ref B, .ref (B + 188), .ref (B + 230), .int x4, uu, uu] [.long 1, .long (eL σ3 (B + 230) (ix 0))] σ3 K)) else PW 13 M_Law_law 639 [.ref b, .ref B, .ref (B + 188), .ref (B + 230), .int x4, uu, uu] [] σ3 K) else K (.inl (some (.int 0))) σ3)) K)) K) := by
      intro σ2 v hv m hE
      refine q_rerun m.2.2.2.1 hI (by omega) (fun q => ?_) (fun c' k' hc' ec' k1' k2' es' h3' => ?_) (fun c' k' hc' ec' k1' k2' es' _ σ3 M3 g3 f3 => ?_)
      · rcases q with q | q
        · exact absurd q (ok8 hc)
        · exact absurd q (okG (lo := 1) (hi := 999) k1 k2 (by decide))
      · have q1 := inj_n ec' (by omega) (by omega)
        subst q1
        omega
      · have q1 := inj_n ec' (by omega) (by omega)
        have q2 := inj_n es' (by omega) (by omega)
        subst q1 q2
        have n3 := m.fin M3 f3 ((hI.rerun hc h3).mo (by omega))
        have z3 : sh σ3 (B + 188) = (1, 11) := by rw [f3.sh]; exact m.z
        have E3 : eL σ3 (B + 230) (ix 0) = v := by have := m.eL f3; rw [hE] at this; exact this
        rw [kI_i]
        refine ⟨z3, e_Mod_thrown_0 _ ⟨z3, ?_⟩⟩
        rw [kI_i, g3, if_pos (show nI 0 = (0 : Int32) by decide), if_pos rfl]
        refine ⟨1, n3.2.2.2.1, in_n (n := 0) (by decide) (by decide), ?_⟩
        rw [E3, hv]
        rcases hres with hr | hr
        · rw [hr, if_pos (by decide), if_neg (by decide)]
          refine e_Law_law_633 _ _ _ _ _ _ _ ?_
          rw [lg_self, if_pos rfl]
          exact e_Law_law_639 _ _ _ _ _ (hk σ3 _ n3)
        · rw [hr, if_neg (by decide), if_pos rfl]
          refine e_Law_law_633 _ _ _ _ _ _ _ ?_
          rw [lg_self, if_pos rfl]
          exact e_Law_law_639 _ _ _ _ _ (hk σ3 _ n3)
    have tail : ∀ v : Int64, v = (if (spRerun S c k).2 = 1 then 1 else 0) → ∃ n1 : Nat, sh σ' (B + 230) = (5, n1) ∧ vp_in 0 n1 ∧ (∀ σ2 : PH, σ2 = uL σ' (B + 230) (ix 0) v → kI (fun r1 σ1 => (∃ n2 : Nat, sh σ1 b = (10, n2) ∧ vp_in (x4 + 1) n2 ∧ vp_in (x4 + 2) n2 ∧ sh σ1 (B + 188) = (1, 11) ∧ PW 12 M_Mod_rerun 0 [.ref (B + 188), .int (eI σ1 b (ix (x4 + 1))), .int (eI σ1 b (ix (x4 + 2))), uu, uu, uu] [] σ1 (kI (fun r2 σ2 => sh σ2 (B + 188) = (1, 11) ∧ PW 12 M_Mod_thrown 0 [.ref (B + 188)] [] σ2 (kI (fun r3 σ3 => (if r3 = r1 then (if r1 = 0 then (∃ n3 : Nat, sh σ3 (B + 230) = (5, n3) ∧ vp_in 0 n3 ∧ (if r2 = 0 then PW 13 M_Law_law 633 [.ref b, .ref B, .ref (B + 188), .ref (B + 230), .int x4, uu, uu] [.long 0, .long (eL σ3 (B + 230) (ix 0))] σ3 K else PW 13 M_Law_law 633 [.ref b, .ref B, .ref (B + 188), .ref (B + 230), .int x4, uu, uu] [.long 1, .long (eL σ3 (B + 230) (ix 0))] σ3 K)) else PW 13 M_Law_law 639 [.ref b, .ref B, .ref (B + 188), .ref (B + 230), .int x4, uu, uu] [] σ3 K) else K (.inl (some (.int 0))) σ3)) K)) K))) K (.inl (some (.int 0))) σ2) := by
      intro v hv
      refine ⟨1, by rw [hf.sh]; exact w4, in_n (n := 0) (by decide) (by decide), fun σ2 e2 => ?_⟩
      obtain ⟨m, hE⟩ := go v hv σ2 e2
      rw [kI_i]
      refine ⟨L, m.1, v1, v2, m.z, ?_⟩
      rw [m.2.1, m.2.1, ec, ek]
      exact fin σ2 v hv m hE
    rcases hres with hr | hr
    · rw [hr, if_pos (by decide)]
      exact tail 0 (by rw [hr, if_neg (by decide)])
    · rw [hr, if_neg (by decide)]
      exact tail 1 (by rw [hr, if_pos rfl])
end Law2
