/-! ===== the law ===== -/
theorem dc_Law_law_39 : decode M_Law_law.2.1 39 = .ok (.tableswitch 937 0 14 #[73, 141, 197, 253, 313, 381, 472, 528, 603, 671, 739, 795, 845, 901, 912], 73) := by decide +kernel
theorem and15 (x : Int32) : ∃ k : Nat, k < 16 ∧ x &&& 15 = nI k := by
  refine ⟨x.toBitVec.toNat % 16, Nat.mod_lt _ (by decide), ?_⟩
  apply Int32.toBitVec_inj.mp
  apply BitVec.eq_of_toNat_eq
  have hm := Nat.mod_lt x.toBitVec.toNat (show 0 < 16 by decide)
  rw [Int32.toBitVec_and, BitVec.toNat_and, pk_tn (by omega)]
  exact Nat.and_two_pow_sub_one_eq_mod _ 4
section LawEnd
variable {σ : PH} {b L B t : Nat} {S : SP}
theorem LW.mo (h : LW σ b L B t S) : LW σ b L B (t + 1) S := by
  obtain ⟨w1, w2, w3, w4, w5, w6, w7⟩ := h
  exact ⟨w1, w2, w3, w4, w5.mo (by omega), by omega, by omega⟩
theorem law_loop (hb : b < B) (hL : L ≤ 2048) (hL4 : 4 ≤ L) : ∀ (n t : Nat) (σ : PH) (S : SP), t + n = 513 → LW σ b L B t S → PW 13 M_Law_law 23 [.ref b, .ref B, .ref (B + 188), .ref (B + 230), .int (nI (4 * t)), uu, uu] [] σ (fun o _ => o = .inl (some (.int 1))) := by
  have hs : nI L - 4 = nI (L - 4) := by rw [l_4, sub_n hL4]
  intro n
  induction n with
  | zero =>
    intro t σ S htn hW
    refine e_Law_law_23 _ _ _ _ _ ⟨L, hW.1, ?_⟩
    rw [hs, if_pos ((nI_lt_iff (by omega) (by omega)).mpr (by omega))]
  | succ n ih =>
    intro t σ S htn hW
    refine e_Law_law_23 _ _ _ _ _ ⟨L, hW.1, ?_⟩
    rw [hs]
    by_cases he : L - 4 < 4 * t
    · rw [if_pos ((nI_lt_iff (by omega) (by omega)).mpr he)]
    · rw [if_neg (fun q => he ((nI_lt_iff (by omega) (by omega)).mp q))]
      refine ⟨in_n (by omega) (by omega), ?_⟩
      have v1 : vp_in (nI (4 * t) + 1) L := by rw [l_1, add_n]; exact in_n (by omega) (by omega)
      have v2 : vp_in (nI (4 * t) + 2) L := by rw [l_2, add_n]; exact in_n (by omega) (by omega)
      have v3 : vp_in (nI (4 * t) + 3) L := by rw [l_3, add_n]; exact in_n (by omega) (by omega)
      have ht : t < 512 := by omega
      have hk : ∀ σ' S', LW σ' b L B (t + 1) S' → PW 13 M_Law_law 976 [.ref b, .ref B, .ref (B + 188), .ref (B + 230), .int (nI (4 * t)), uu, uu] [] σ' (fun o _ => o = .inl (some (.int 1))) := by
        intro σ' S' hW'
        refine e_Law_law_976 _ _ _ _ _ ?_
        rw [l_4, add_n, show 4 * t + 4 = 4 * (t + 1) by omega]
        exact ih (t + 1) σ' S' (by omega) hW'
      obtain ⟨k, hk16, ek⟩ := and15 (eI σ b (ix (nI (4 * t))))
      rw [ek]
      rcases (show k = 0 ∨ k = 1 ∨ k = 2 ∨ k = 3 ∨ k = 4 ∨ k = 5 ∨ k = 6 ∨ k = 7 ∨ k = 8 ∨ k = 9 ∨ k = 10 ∨ k = 11 ∨ k = 12 ∨ k = 13 ∨ k = 14 ∨ k = 15 by omega) with q | q | q | q | q | q | q | q | q | q | q | q | q | q | q | q
      · subst q
        exact pw_tableIn (off := 73) (tgt := 112) dc_Law_law_39 (by decide) (by decide) rfl (by decide) (w_sign hW hb ht v1 v2 hk)
      · subst q
        exact pw_tableIn (off := 141) (tgt := 180) dc_Law_law_39 (by decide) (by decide) rfl (by decide) (w_receipt hW hb ht v1 hk)
      · subst q
        exact pw_tableIn (off := 197) (tgt := 236) dc_Law_law_39 (by decide) (by decide) rfl (by decide) (w_askFor hW hb ht v1 hk)
      · subst q
        exact pw_tableIn (off := 253) (tgt := 292) dc_Law_law_39 (by decide) (by decide) rfl (by decide) (w_route hW hb ht v1 v2 v3 hk)
      · subst q
        exact pw_tableIn (off := 313) (tgt := 352) dc_Law_law_39 (by decide) (by decide) rfl (by decide) (w_group hW hb ht v1 v2 hk)
      · subst q
        exact pw_tableIn (off := 381) (tgt := 420) dc_Law_law_39 (by decide) (by decide) rfl (by decide) (w_open hW hb ht v1 v2 hk)
      · subst q
        exact pw_tableIn (off := 472) (tgt := 511) dc_Law_law_39 (by decide) (by decide) rfl (by decide) (w_send hW hb ht v1 hk)
      · subst q
        exact pw_tableIn (off := 528) (tgt := 567) dc_Law_law_39 (by decide) (by decide) rfl (by decide) (w_rerun hW hb ht v1 v2 hk)
      · subst q
        exact pw_tableIn (off := 603) (tgt := 642) dc_Law_law_39 (by decide) (by decide) rfl (by decide) (w_queued hW hb ht v1 v2 hk)
      · subst q
        exact pw_tableIn (off := 671) (tgt := 710) dc_Law_law_39 (by decide) (by decide) rfl (by decide) (w_trace hW hb ht v1 v2 hk)
      · subst q
        exact pw_tableIn (off := 739) (tgt := 778) dc_Law_law_39 (by decide) (by decide) rfl (by decide) (w_reason hW hb ht v1 hk)
      · subst q
        exact pw_tableIn (off := 795) (tgt := 834) dc_Law_law_39 (by decide) (by decide) rfl (by decide) (w_clerk hW hb ht v1 v2 hk)
      · subst q
        exact pw_tableIn (off := 845) (tgt := 884) dc_Law_law_39 (by decide) (by decide) rfl (by decide) (w_resubmit hW hb ht v1 hk)
      · subst q
        exact pw_tableIn (off := 901) (tgt := 940) dc_Law_law_39 (by decide) (by decide) rfl (by decide) (w_cut hW hb ht hk)
      · subst q
        exact pw_tableIn (off := 912) (tgt := 951) dc_Law_law_39 (by decide) (by decide) rfl (by decide) (w_count hW hb ht v1 hk)
      · subst q
        exact pw_tableOut (tgt := 976) dc_Law_law_39 (Or.inr (by decide)) (by decide) (hk σ S hW.mo)
theorem law_short (hL : L < 4) (h : sh σ b = (10, L)) {B A O : Nat} : PW 13 M_Law_law 23 [.ref b, .ref B, .ref A, .ref O, .int 0, uu, uu] [] σ (fun o _ => o = .inl (some (.int 1))) := by
  refine e_Law_law_23 _ _ _ _ _ ⟨L, h, ?_⟩
  rcases (show L = 0 ∨ L = 1 ∨ L = 2 ∨ L = 3 by omega) with q | q | q | q <;> subst q <;> rw [if_pos (by decide)]
end LawEnd
theorem law_pure : LawPure := by
  rintro σ b L xs ⟨h1, h2, h3, h4, h5, h6⟩
  obtain ⟨B, hB⟩ : ∃ B, B = nx σ := ⟨_, rfl⟩
  have hbB : b < B := by rw [hB]; unfold nx; omega
  have hbs : bs σ = B := by rw [hB]; unfold nx; omega
  refine e_Law_law_0 b ⟨by omega, by omega, fun σ1 e1 => ?_⟩
  have x1 : nx σ1 = B + 1 := by rw [e1, nx_mk, hB]
  have b1 : Bk σ1 B 0 := by rw [e1, hB]; exact Bk.mk
  have c1 : bs σ1 = B := by rw [e1]; exact hbs
  have k1 : cc σ1 = 1 := by rw [e1]; show cc σ + 1 = 1; omega
  have w1 : cs σ1 = 7 := by rw [e1]; show cs σ + 7 = 7; omega
  have g1 : sh σ1 b = (10, L) := by
    have : Ag σ σ1 b := by rw [e1]; exact Ag.mk (by omega)
    rw [this.1]; exact h3
  clear e1
  rw [← hB]
  refine i_Desk (d := 8) x1 b1 (by omega) (by omega) (fun σ2 C2 x2 c2 w2 L2 => ?_)
  rw [kV_v]
  have k2 : cc σ2 = 188 := by unfold nx at x2; omega
  refine ⟨by omega, by omega, fun σ3 e3 => ?_⟩
  have x3 : nx σ3 = B + 188 + 1 := by rw [e3, nx_mk, x2]
  have b3 : Bk σ3 (B + 188) 11 := by rw [e3, ← x2]; exact Bk.mk
  have c3 : bs σ3 = B := by rw [e3]; show bs σ2 = B; rw [c2, c1]
  have k3 : cc σ3 = 189 := by rw [e3]; show cc σ2 + 1 = 189; omega
  have w3 : cs σ3 ≤ 6062 := by rw [e3]; show cs σ2 + 55 ≤ 6062; omega
  have L3 : ∀ q, q < B + 188 → Ag σ2 σ3 q := fun q hq => by rw [e3]; exact Ag.mk (by omega)
  clear e3
  rw [x2]
  refine i_Mod (d := 11) x3 b3 (by omega) (by omega) (fun σ4 M4 x4 w4 c4 L4 => ?_)
  rw [kV_v]
  have k4 : cc σ4 = 230 := by unfold nx at x4; omega
  refine ⟨by omega, by omega, fun σ5 e5 => ?_⟩
  have s5 : sh σ5 (B + 230) = (5, 1) := by rw [e5, show B + 230 = nx σ4 by omega]; exact sh_mk
  have k5 : cc σ5 = 231 := by rw [e5]; show cc σ4 + 1 = 231; omega
  have w5 : cs σ5 ≤ 1660001 := by rw [e5]; show cs σ4 + 1 ≤ 1660001; omega
  have L5 : ∀ q, q < B + 230 → Ag σ4 σ5 q := fun q hq => by rw [e5]; exact Ag.mk (by omega)
  clear e5
  have hsh : sh σ5 b = (10, L) := by rw [(L5 b (by omega)).1, (L4 b (by omega)).1, (L3 b (by omega)).1, (L2 b (by omega)).1]; exact g1
  rw [x4, show B + 188 + 42 = B + 230 by omega]
  by_cases hL : L < 4
  · exact law_short hL hsh
  · refine law_loop hbB h4 (by omega) 513 0 σ5 S0 (by omega) ⟨hsh, ?_, ?_, s5, Inv.zero, by omega, by omega⟩
    · exact ((C2.ag (fun q q1 q2 => L3 q (by omega))).ag (fun q q1 q2 => L4 q (by omega))).ag (fun q q1 q2 => L5 q (by omega))
    · exact M4.ag (fun q hq => L5 q (by unfold gP at hq; omega))
theorem i_vc : Claimed_1_1 ∧ Claimed_1_2 := whole_of law_pure
