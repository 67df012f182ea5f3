/-! ===== constructors: Channel, Routes, RelayDesk ===== -/
section Init2
variable {d : Nat} {σ σ' : PH} {K : PO → PH → Prop} {x : Nat}
theorem i_Channel {B c : Nat} (hc : c < 8) (hx : nx σ = x + 1) (hb : Bk σ x 1) (h1 : cc σ ≤ 800) (h2 : cs σ ≤ 80000) (hk : ∀ σ', CHr σ' x B c [] cs0 → Nw x 11 250 σ σ' → K (.inl none) σ') : PW (d + 3) M_Channel_init 0 [.ref x, .int (nI c)] [] σ K := by
  refine e_Channel_init_0 x _ ⟨hb.1, fun σ1 e1 => ?_⟩
  subst e1
  refine ⟨by show cc σ + 1 ≤ _; omega, by show cs σ + 5 ≤ _; omega, fun σ2 e2 => ?_⟩
  have hx1 : nx (pI σ 64 x 1) = x + 1 := hx
  have b2 : Bk σ2 (x + 1) 2 := by rw [e2, ← hx1]; exact Bk.mk
  have hx2 : nx σ2 = x + 1 + 1 := by rw [e2, nx_mk, hx1]
  have g2 : ∀ q, q < x + 1 → Ag (pI σ 64 x 1) σ2 q := fun q hq => by rw [e2]; exact Ag.mk (by omega)
  have c2 : bs σ2 = bs σ := by rw [e2]; rfl
  have k2 : cc σ2 = cc σ + 1 := by rw [e2]; rfl
  have w2 : cs σ2 = cs σ + 5 := by rw [e2]; rfl
  clear e2
  rw [hx1]
  refine i_Intake hx2 b2 (by omega) (by omega) (fun σ3 t3 n3 => ?_)
  simp only [kV_v]
  have hx3 := nx_of hx2 n3
  obtain ⟨c3, k3, w3, g3⟩ := n3
  have o3 : sh σ3 x = (1, 1) := by rw [(g3 x (by omega)).1, (g2 x (by omega)).1]; exact hb.1
  refine ⟨o3, fun σ4 e4 => ?_⟩
  subst e4
  refine ⟨by show cc σ3 + 1 ≤ _; omega, by show cs σ3 + 3 ≤ _; omega, fun σ5 e5 => ?_⟩
  have hx4 : nx (pR σ3 65 x (some (x + 1))) = x + 4 := by show nx σ3 = _; rw [hx3]
  have b5 : Bk σ5 (x + 4) 4 := by rw [e5, ← hx4]; exact Bk.mk
  have hx5 : nx σ5 = x + 4 + 1 := by rw [e5, nx_mk, hx4]
  have g5 : ∀ q, q < x + 4 → Ag (pR σ3 65 x (some (x + 1))) σ5 q := fun q hq => by rw [e5]; exact Ag.mk (by omega)
  have c5 : bs σ5 = bs σ3 := by rw [e5]; rfl
  have k5 : cc σ5 = cc σ3 + 1 := by rw [e5]; rfl
  have w5 : cs σ5 = cs σ3 + 3 := by rw [e5]; rfl
  clear e5
  rw [hx4]
  refine i_Numbers hx5 b5 ⟨by omega, by omega⟩ (fun σ6 t6 n6 => ?_)
  simp only [kV_v]
  have hx6 := nx_of hx5 n6
  obtain ⟨c6, k6, w6, g6⟩ := n6
  have o6 : sh σ6 x = (1, 1) := by rw [(g6 x (by omega)).1, (g5 x (by omega)).1]; exact o3
  refine ⟨o6, fun σ7 e7 => ?_⟩
  subst e7
  refine ⟨by show cc σ6 + 1 ≤ _; omega, by show cs σ6 + 11 ≤ _; omega, fun σ8 e8 => ?_⟩
  have hx7 : nx (pR σ6 66 x (some (x + 4))) = x + 6 := by show nx σ6 = _; rw [hx6]
  have b8 : Bk σ8 (x + 6) 5 := by rw [e8, ← hx7]; exact Bk.mk
  have hx8 : nx σ8 = x + 6 + 1 := by rw [e8, nx_mk, hx7]
  have g8 : ∀ q, q < x + 6 → Ag (pR σ6 66 x (some (x + 4))) σ8 q := fun q hq => by rw [e8]; exact Ag.mk (by omega)
  have c8 : bs σ8 = bs σ6 := by rw [e8]; rfl
  have k8 : cc σ8 = cc σ6 + 1 := by rw [e8]; rfl
  have w8 : cs σ8 = cs σ6 + 11 := by rw [e8]; rfl
  clear e8
  rw [hx7]
  refine i_Outlet hc hx8 b8 (by omega) (by omega) (fun σ9 t9 n9 => ?_)
  simp only [kV_v]
  obtain ⟨c9, k9, w9, g9⟩ := n9
  have o9 : sh σ9 x = (1, 1) := by rw [(g9 x (by omega)).1, (g8 x (by omega)).1]; exact o6
  refine ⟨o9, fun σ10 e10 => ?_⟩
  subst e10
  have G6 : ∀ q, x < q → q < x + 6 → Ag σ6 (pR σ9 67 x (some (x + 6))) q := fun q q1 q2 => (((Ag.pR (by omega)).tr (g8 q (by omega))).tr (g9 q (by omega))).tr (Ag.pR (by omega))
  have G3 : ∀ q, x < q → q < x + 4 → Ag σ3 (pR σ9 67 x (some (x + 6))) q := fun q q1 q2 => (((Ag.pR (by omega)).tr (g5 q (by omega))).tr (g6 q (by omega))).tr (G6 q q1 (by omega))
  refine hk _ ⟨o9, ?_, ?_, ?_, gR_s, ?_, ?_, 0, false, [], 0, false, ?_, fun q => absurd rfl q⟩ ⟨?_, ?_, ?_, fun q hq => ?_⟩
  · show gI σ9 64 x = _
    rw [(g9 x (by omega)).2.1, (g8 x (by omega)).2.1]
    show gI σ6 64 x = _
    rw [(g6 x (by omega)).2.1, (g5 x (by omega)).2.1]
    show gI σ3 64 x = _
    rw [(g3 x (by omega)).2.1, (g2 x (by omega)).2.1]
    exact gI_s
  · simp (disch := omega) only [gR_d]
    rw [(g9 x (by omega)).2.2.1, (g8 x (by omega)).2.2.1]
    simp (disch := omega) only [gR_d]
    rw [(g6 x (by omega)).2.2.1, (g5 x (by omega)).2.2.1]
    exact gR_s
  · simp (disch := omega) only [gR_d]
    rw [(g9 x (by omega)).2.2.1, (g8 x (by omega)).2.2.1]
    exact gR_s
  · exact (t3.w (fun z hz => absurd hz (List.not_mem_nil))).ag (G3 _ (by omega) (by omega)) (G3 _ (by omega) (by omega)) (G3 _ (by omega) (by omega))
  · exact t6.ag (G6 _ (by omega) (by omega)) (G6 _ (by omega) (by omega))
  · exact t9.kept (fun q q1 q2 => Ag.pR (by omega))
  · show bs σ9 = _; rw [c9, c8]; show bs σ6 = _; rw [c6, c5]; show bs σ3 = _; rw [c3, c2]
  · show cc σ9 + 1 = _; omega
  · show cs σ9 ≤ _; omega
  · exact (((((((Ag.pI (by omega)).tr (g2 q (by omega))).tr (g3 q (by omega))).tr (Ag.pR (by omega))).tr (g5 q (by omega))).tr (g6 q (by omega))).tr (Ag.pR (by omega))).tr (((g8 q (by omega)).tr (g9 q (by omega))).tr (Ag.pR (by omega)))
theorem routes_loop {σ0 : PH} (hk : ∀ σ', RS σ' x [] → bs σ' = bs σ0 → cc σ' = cc σ0 + 24 → cs σ' ≤ cs σ0 + 120 → (∀ q, q < x → Ag σ0 σ' q) → K (.inl none) σ') (h01 : cc σ0 ≤ 700) (h02 : cs σ0 ≤ 70000) : ∀ (n i : Nat) (σ : PH), i + n = 12 → nx σ = x + 2 + 2 * i → sh σ x = (1, 9) → gR σ 576 x = some (x + 1) → sh σ (x + 1) = (9, 12) → gI σ 577 x = nI 0 → (∀ j, j < i → eR σ (x + 1) j = some (x + 2 + 2 * j) ∧ RT σ (x + 2 + 2 * j) r0) → bs σ = bs σ0 → cc σ = cc σ0 + 2 * i → cs σ ≤ cs σ0 + 10 * i → (∀ q, q < x → Ag σ0 σ q) → PW (d + 2) M_Routes_init 15 [.ref x, .int (nI i)] [] σ K := by
  intro n
  induction n with
  | zero =>
    intro i σ hin hnx a1 a2 a3 a4 a5 hb hc hw hq
    have hi : i = 12 := by omega
    subst hi
    refine e_Routes_init_15 x _ ?_
    rw [if_pos (by decide)]
    exact hk σ ⟨a1, a2, a3, fun j hj => (a5 j hj).1, a4, by simp, fun j hj => (a5 j hj).2⟩ hb hc hw hq
  | succ n ih =>
    intro i σ hin hnx a1 a2 a3 a4 a5 hb hc hw hq
    refine e_Routes_init_15 x _ ?_
    rw [if_neg (show ¬ (12 : Int32) ≤ nI i from fun q => by have := (nI_le_iff (a := 12) (by decide) (by omega)).mp q; omega)]
    refine ⟨a1, x + 1, a2, by omega, by omega, fun σ1 e1 => ?_⟩
    have b1 : Bk σ1 (x + 2 + 2 * i) 8 := by rw [e1, ← hnx]; exact Bk.mk
    have hx1 : nx σ1 = x + 2 + 2 * i + 1 := by rw [e1, nx_mk, hnx]
    have g1 : ∀ q, q < x + 2 + 2 * i → Ag σ σ1 q := fun q hq => by rw [e1]; exact Ag.mk (by omega)
    have c1 : bs σ1 = bs σ := by rw [e1]; rfl
    have k1 : cc σ1 = cc σ + 1 := by rw [e1]; rfl
    have w1 : cs σ1 = cs σ + 5 := by rw [e1]; rfl
    clear e1
    rw [hnx]
    refine i_Route hx1 b1 ⟨by omega, by omega⟩ (fun σ2 t2 n2 => ?_)
    simp only [kV_v]
    have hx2 := nx_of hx1 n2
    obtain ⟨c2, k2, w2, g2⟩ := n2
    have G : ∀ q, q < x + 2 + 2 * i → Ag σ σ2 q := fun q hq => (g1 q hq).tr (g2 q hq)
    refine ⟨12, by rw [(G _ (by omega)).1]; exact a3, in_n (by omega) (by decide), fun b hbb => ?_, fun σ3 e3 => ?_⟩
    · rw [Option.some.injEq] at hbb; rw [← hbb]; exact t2.1
    · rw [ix_n (by omega)] at e3
      subst e3
      rw [nI_1]
      refine ih (i + 1) _ (by omega) (by show nx σ2 = _; rw [hx2]; omega) (by show sh σ2 x = _; rw [(G x (by omega)).1]; exact a1) (by show gR σ2 576 x = _; rw [(G x (by omega)).2.2.1]; exact a2) (by show sh σ2 (x + 1) = _; rw [(G _ (by omega)).1]; exact a3) (by show gI σ2 577 x = _; rw [(G x (by omega)).2.1]; exact a4) (fun j hj => ?_) (by rw [bs_uR, c2, c1, hb]) (by rw [cc_uR]; omega) (by rw [cs_uR]; omega) (fun q hq' => ((hq q hq').tr (G q (by omega))).tr (Ag.uR (by omega)))
      by_cases hji : j = i
      · subst hji
        exact ⟨by simp only [eR_s], t2.ag (Ag.uR (by omega)) (Ag.uR (by omega))⟩
      · have := a5 j (by omega)
        refine ⟨?_, this.2.ag ((G _ (by omega)).tr (Ag.uR (by omega))) ((G _ (by omega)).tr (Ag.uR (by omega)))⟩
        simp (disch := omega) only [eR_d]
        rw [(G _ (by omega)).2.2.2.2.1]
        exact this.1
theorem i_Routes (hx : nx σ = x + 1) (hb : Bk σ x 9) (h1 : cc σ ≤ 600) (h2 : cs σ ≤ 60000) (hk : ∀ σ', RS σ' x [] → Nw x 26 200 σ σ' → K (.inl none) σ') : PW (d + 2) M_Routes_init 0 [.ref x, uu] [] σ K := by
  refine e_Routes_init_0 x ⟨by omega, by omega, fun σ1 e1 => ?_⟩
  have g1 : ∀ q, q < x + 1 → Ag σ σ1 q := fun q hq => by rw [e1]; exact Ag.mk (by omega)
  have s1 : sh σ1 (x + 1) = (9, 12) := by rw [e1, ← hx]; exact sh_mk
  have hx1 : nx σ1 = x + 2 := by rw [e1, nx_mk, hx]
  have c1 : bs σ1 = bs σ := by rw [e1]; rfl
  have k1 : cc σ1 = cc σ + 1 := by rw [e1]; rfl
  have w1 : cs σ1 = cs σ + 12 := by rw [e1]; rfl
  clear e1
  have b1 := hb.ag (g1 x (by omega))
  refine ⟨b1.1, fun σ2 e2 => ?_⟩
  rw [hx] at e2
  subst e2
  refine routes_loop (σ0 := pR σ1 576 x (some (x + 1))) (fun σ' r1 r2 r3 r4 r5 => hk σ' r1 ⟨?_, ?_, ?_, fun q hq => ?_⟩) (by show cc σ1 ≤ _; omega) (by show cs σ1 ≤ _; omega) 12 0 _ (by omega) (by show nx σ1 = _; omega) b1.1 gR_s s1 (b1.2.1 577) (fun j hj => absurd hj (Nat.not_lt_zero _)) rfl rfl (by omega) (fun q _ => Ag.rf)
  · rw [r2]; exact c1
  · rw [r3]; show cc σ1 + 24 + 1 = _; omega
  · refine Nat.le_trans r4 ?_; show cs σ1 + 120 ≤ _; omega
  · exact ((g1 q (by omega)).tr (Ag.pR (by omega))).tr (r5 q hq)
/-- what stands while the desk's channels, messages, cases are made -/
def DB (σ : PH) (B nc nm nk : Nat) : Prop := sh σ B = (1, 0) ∧ gR σ 0 B = some (B + 1) ∧ gR σ 1 B = some (B + 2) ∧ gR σ 2 B = some (B + 3) ∧ gR σ 3 B = some (B + 4) ∧ gR σ 4 B = some (B + 30) ∧ gI σ 5 B = nI 0 ∧ gI σ 6 B = nI 0 ∧ sh σ (B + 1) = (6, 8) ∧ (∀ c, c < nc → eR σ (B + 1) c = some (cA B c)) ∧ sh σ (B + 2) = (7, 10) ∧ (∀ i, i < nm → eR σ (B + 2) i = some (mA B (i + 1))) ∧ sh σ (B + 3) = (8, 6) ∧ (∀ i, i < nk → eR σ (B + 3) i = some (B + 170 + 3 * i)) ∧ RS σ (B + 4) [] ∧ HD σ (B + 30) ∧ (∀ c, c < nc → CHr σ (cA B c) B c [] cs0) ∧ (∀ m, m < nm → ME σ (mA B (m + 1)) ms0) ∧ (∀ i, i < nk → CA σ (B + 170 + 3 * i) (0, []))
theorem DB.ag {B nc nm nk N : Nat} (h : DB σ B nc nm nk) (hN : B + 32 + 11 * nc ≤ N) (hN2 : 0 < nm → B + 120 + 5 * nm ≤ N) (hN3 : 0 < nk → B + 170 + 3 * nk ≤ N) (hg : ∀ q, q < N → Ag σ σ' q) : DB σ' B nc nm nk := by
  obtain ⟨a1, a2, a3, a4, a5, a6, a7, a8, a9, a10, a11, a12, a13, a14, a15, a16, a17, a18, a19⟩ := h
  have g0 := hg B (by omega)
  have g1 := hg (B + 1) (by omega)
  have g2 := hg (B + 2) (by omega)
  have g3 := hg (B + 3) (by omega)
  exact ⟨by rw [g0.1]; exact a1, by rw [g0.2.2.1]; exact a2, by rw [g0.2.2.1]; exact a3, by rw [g0.2.2.1]; exact a4, by rw [g0.2.2.1]; exact a5, by rw [g0.2.2.1]; exact a6, by rw [g0.2.1]; exact a7, by rw [g0.2.1]; exact a8, by rw [g1.1]; exact a9, fun c hc => by rw [g1.2.2.2.2.1]; exact a10 c hc, by rw [g2.1]; exact a11, fun i hi => by rw [g2.2.2.2.2.1]; exact a12 i hi, by rw [g3.1]; exact a13, fun i hi => by rw [g3.2.2.2.2.1]; exact a14 i hi, a15.ag (fun q q1 q2 => hg q (by omega)), a16.ag (hg _ (by omega)) (hg _ (by omega)), fun c hc => (a17 c hc).ag (fun q hq => hg q (by unfold hP cA at hq; omega)), fun m hm' => (a18 m hm').ag (fun q q1 q2 => hg q (by unfold mA at q2; have := hN2 (by omega); omega)), fun i hi => (a19 i hi).ag (fun q q1 q2 => hg q (by have := hN3 (by omega); omega))⟩
theorem desk_cases {B : Nat} {σ0 : PH} (hk : ∀ σ', DB σ' B 8 10 6 → bs σ' = bs σ0 → cc σ' = cc σ0 + 18 → cs σ' ≤ cs σ0 + 600 → (∀ q, q < B → Ag σ0 σ' q) → K (.inl none) σ') (h01 : cc σ0 ≤ 500) (h02 : cs σ0 ≤ 50000) : ∀ (n i : Nat) (σ : PH), i + n = 6 → nx σ = B + 170 + 3 * i → DB σ B 8 10 i → bs σ = bs σ0 → cc σ = cc σ0 + 3 * i → cs σ ≤ cs σ0 + 100 * i → (∀ q, q < B → Ag σ0 σ q) → PW (d + 3) M_Desk_init 110 [.ref B, .int (nI i)] [] σ K := by
  intro n
  induction n with
  | zero =>
    intro i σ hin hnx hD hb hc hw hq
    have hi : i = 6 := by omega
    subst hi
    refine e_Desk_init_110 B _ ?_
    rw [if_pos (by decide)]
    exact hk σ hD hb hc hw hq
  | succ n ih =>
    intro i σ hin hnx hD hb hc hw hq
    refine e_Desk_init_110 B _ ?_
    rw [if_neg (show ¬ (6 : Int32) ≤ nI i from fun q => by have := (nI_le_iff (a := 6) (by decide) (by omega)).mp q; omega)]
    refine ⟨hD.1, B + 3, hD.2.2.2.1, by omega, by omega, fun σ1 e1 => ?_⟩
    have b1 : Bk σ1 (B + 170 + 3 * i) 7 := by rw [e1, ← hnx]; exact Bk.mk
    have hx1 : nx σ1 = B + 170 + 3 * i + 1 := by rw [e1, nx_mk, hnx]
    have g1 : ∀ q, q < B + 170 + 3 * i → Ag σ σ1 q := fun q hq => by rw [e1]; exact Ag.mk (by omega)
    have c1 : bs σ1 = bs σ := by rw [e1]; rfl
    have k1 : cc σ1 = cc σ + 1 := by rw [e1]; rfl
    have w1 : cs σ1 = cs σ + 2 := by rw [e1]; rfl
    clear e1
    rw [hnx]
    refine i_Case (d := d) hx1 b1 (by omega) (by omega) (fun σ2 t2 n2 => ?_)
    simp only [kV_v]
    have hx2 := nx_of hx1 n2
    obtain ⟨c2, k2, w2, g2⟩ := n2
    have G : ∀ q, q < B + 170 + 3 * i → Ag σ σ2 q := fun q hq => (g1 q (by omega)).tr (g2 q (by omega))
    obtain ⟨a1, a2, a3, a4, a5, a6, a7, a8, a9, a10, a11, a12, a13, a14, a15, a16, a17, a18, a19⟩ := hD.ag (by omega) (fun _ => by omega) (fun _ => by omega) G
    refine ⟨6, a13, in_n (by omega) (by decide), fun b hbb => ?_, fun σ3 e3 => ?_⟩
    · rw [Option.some.injEq] at hbb; rw [← hbb]; exact t2.1
    · rw [ix_n (by omega)] at e3
      subst e3
      rw [nI_1]
      have ag : ∀ q, q ≠ B + 3 → Ag σ2 (uR σ2 (B + 3) i (some (B + 170 + 3 * i))) q := fun q hq => Ag.uR hq
      refine ih (i + 1) _ (by omega) (by show nx σ2 = _; omega) ⟨a1, a2, a3, a4, a5, a6, a7, a8, a9, fun c hc => by simp (disch := omega) only [eR_d]; exact a10 c hc, a11, fun j hj => by simp (disch := omega) only [eR_d]; exact a12 j hj, a13, fun j hj => ?_, a15.ag (fun q q1 q2 => ag q (by omega)), a16.ag (ag _ (by omega)) (ag _ (by omega)), fun c hc => (a17 c hc).ag (fun q hq => ag q (by unfold hP cA at hq; omega)), fun m hm' => (a18 m hm').ag (fun q q1 q2 => ag q (by unfold mA at q1; omega)), fun j hj => ?_⟩ (by rw [bs_uR, c2, c1, hb]) (by rw [cc_uR]; omega) (by rw [cs_uR]; omega) (fun q hq' => ((hq q hq').tr (G q (by omega))).tr (ag q (by omega)))
      · by_cases hji : j = i
        · subst hji; simp only [eR_s]
        · simp (disch := omega) only [eR_d]; exact a14 j (by omega)
      · by_cases hji : j = i
        · subst hji; exact t2.ag (fun q q1 q2 => ag q (by omega))
        · exact (a19 j (by omega)).ag (fun q q1 q2 => ag q (by omega))
theorem desk_messages {B : Nat} {σ0 : PH} (hk : ∀ σ', nx σ' = B + 170 → DB σ' B 8 10 0 → bs σ' = bs σ0 → cc σ' = cc σ0 + 50 → cs σ' ≤ cs σ0 + 1000 → (∀ q, q < B → Ag σ0 σ' q) → PW (d + 3) M_Desk_init 110 [.ref B, .int (nI 0)] [] σ' K) (h01 : cc σ0 ≤ 400) (h02 : cs σ0 ≤ 40000) : ∀ (n i : Nat) (σ : PH), i + n = 10 → nx σ = B + 120 + 5 * i → DB σ B 8 i 0 → bs σ = bs σ0 → cc σ = cc σ0 + 5 * i → cs σ ≤ cs σ0 + 100 * i → (∀ q, q < B → Ag σ0 σ q) → PW (d + 3) M_Desk_init 83 [.ref B, .int (nI i)] [] σ K := by
  intro n
  induction n with
  | zero =>
    intro i σ hin hnx hD hb hc hw hq
    have hi : i = 10 := by omega
    subst hi
    refine e_Desk_init_83 B _ ?_
    rw [if_pos (by decide)]
    exact hk σ (by omega) hD hb hc hw hq
  | succ n ih =>
    intro i σ hin hnx hD hb hc hw hq
    have em : mA B (i + 1) = B + 120 + 5 * i := by unfold mA; omega
    refine e_Desk_init_83 B _ ?_
    rw [if_neg (show ¬ (10 : Int32) ≤ nI i from fun q => by have := (nI_le_iff (a := 10) (by decide) (by omega)).mp q; omega)]
    refine ⟨hD.1, B + 2, hD.2.2.1, by omega, by omega, fun σ1 e1 => ?_⟩
    have b1 : Bk σ1 (B + 120 + 5 * i) 6 := by rw [e1, ← hnx]; exact Bk.mk
    have hx1 : nx σ1 = B + 120 + 5 * i + 1 := by rw [e1, nx_mk, hnx]
    have g1 : ∀ q, q < B + 120 + 5 * i → Ag σ σ1 q := fun q hq => by rw [e1]; exact Ag.mk (by omega)
    have c1 : bs σ1 = bs σ := by rw [e1]; rfl
    have k1 : cc σ1 = cc σ + 1 := by rw [e1]; rfl
    have w1 : cs σ1 = cs σ + 5 := by rw [e1]; rfl
    clear e1
    rw [hnx]
    refine i_Message (d := d) hx1 b1 (by omega) (by omega) (fun σ2 t2 n2 => ?_)
    simp only [kV_v]
    have hx2 := nx_of hx1 n2
    obtain ⟨c2, k2, w2, g2⟩ := n2
    have G : ∀ q, q < B + 120 + 5 * i → Ag σ σ2 q := fun q hq => (g1 q (by omega)).tr (g2 q (by omega))
    obtain ⟨a1, a2, a3, a4, a5, a6, a7, a8, a9, a10, a11, a12, a13, a14, a15, a16, a17, a18, a19⟩ := hD.ag (by omega) (fun _ => by omega) (fun q => absurd q (by omega)) G
    refine ⟨10, a11, in_n (by omega) (by decide), fun b hbb => ?_, fun σ3 e3 => ?_⟩
    · rw [Option.some.injEq] at hbb; rw [← hbb]; exact t2.1
    · rw [ix_n (by omega)] at e3
      subst e3
      rw [nI_1]
      have ag : ∀ q, q ≠ B + 2 → Ag σ2 (uR σ2 (B + 2) i (some (B + 120 + 5 * i))) q := fun q hq => Ag.uR hq
      refine ih (i + 1) _ (by omega) (by show nx σ2 = _; omega) ⟨a1, a2, a3, a4, a5, a6, a7, a8, a9, fun c hc => by simp (disch := omega) only [eR_d]; exact a10 c hc, a11, fun j hj => ?_, a13, fun j hj => absurd hj (Nat.not_lt_zero _), a15.ag (fun q q1 q2 => ag q (by omega)), a16.ag (ag _ (by omega)) (ag _ (by omega)), fun c hc => (a17 c hc).ag (fun q hq => ag q (by unfold hP cA at hq; omega)), fun j hj => ?_, fun j hj => absurd hj (Nat.not_lt_zero _)⟩ (by rw [bs_uR, c2, c1, hb]) (by rw [cc_uR]; omega) (by rw [cs_uR]; omega) (fun q hq' => ((hq q hq').tr (G q (by omega))).tr (ag q (by omega)))
      · by_cases hji : j = i
        · subst hji; rw [em]; simp only [eR_s]
        · simp (disch := omega) only [eR_d]; exact a12 j (by omega)
      · by_cases hji : j = i
        · subst hji; rw [em]; exact t2.ag (fun q q1 q2 => ag q (by omega))
        · exact (a18 j (by omega)).ag (fun q q1 q2 => ag q (by unfold mA at q1; omega))
theorem desk_channels {B : Nat} {σ0 : PH} (hk : ∀ σ', nx σ' = B + 120 → DB σ' B 8 0 0 → bs σ' = bs σ0 → cc σ' = cc σ0 + 88 → cs σ' ≤ cs σ0 + 2400 → (∀ q, q < B → Ag σ0 σ' q) → PW (d + 4) M_Desk_init 83 [.ref B, .int (nI 0)] [] σ' K) (h01 : cc σ0 ≤ 300) (h02 : cs σ0 ≤ 30000) : ∀ (n i : Nat) (σ : PH), i + n = 8 → nx σ = B + 32 + 11 * i → DB σ B i 0 0 → bs σ = bs σ0 → cc σ = cc σ0 + 11 * i → cs σ ≤ cs σ0 + 300 * i → (∀ q, q < B → Ag σ0 σ q) → PW (d + 4) M_Desk_init 55 [.ref B, .int (nI i)] [] σ K := by
  intro n
  induction n with
  | zero =>
    intro i σ hin hnx hD hb hc hw hq
    have hi : i = 8 := by omega
    subst hi
    refine e_Desk_init_55 B _ ?_
    rw [if_pos (by decide)]
    exact hk σ (by omega) hD hb hc hw hq
  | succ n ih =>
    intro i σ hin hnx hD hb hc hw hq
    have ec : cA B i = B + 32 + 11 * i := rfl
    refine e_Desk_init_55 B _ ?_
    rw [if_neg (show ¬ (8 : Int32) ≤ nI i from fun q => by have := (nI_le_iff (a := 8) (by decide) (by omega)).mp q; omega)]
    refine ⟨hD.1, B + 1, hD.2.1, by omega, by omega, fun σ1 e1 => ?_⟩
    have b1 : Bk σ1 (B + 32 + 11 * i) 1 := by rw [e1, ← hnx]; exact Bk.mk
    have hx1 : nx σ1 = B + 32 + 11 * i + 1 := by rw [e1, nx_mk, hnx]
    have g1 : ∀ q, q < B + 32 + 11 * i → Ag σ σ1 q := fun q hq => by rw [e1]; exact Ag.mk (by omega)
    have c1 : bs σ1 = bs σ := by rw [e1]; rfl
    have k1 : cc σ1 = cc σ + 1 := by rw [e1]; rfl
    have w1 : cs σ1 = cs σ + 4 := by rw [e1]; rfl
    clear e1
    rw [hnx]
    refine i_Channel (d := d) (B := B) (by omega) hx1 b1 (by omega) (by omega) (fun σ2 t2 n2 => ?_)
    simp only [kV_v]
    have hx2 := nx_of hx1 n2
    obtain ⟨c2, k2, w2, g2⟩ := n2
    have w3 : cs σ2 ≤ cs σ0 + 300 * (i + 1) := by rw [Nat.mul_add, Nat.mul_one, ← Nat.add_assoc]; exact Nat.le_trans w2 (by rw [w1]; exact Nat.le_trans (Nat.add_le_add_right (Nat.add_le_add_right hw 4) 250) (by omega))
    have G : ∀ q, q < B + 32 + 11 * i → Ag σ σ2 q := fun q hq => (g1 q (by omega)).tr (g2 q (by omega))
    obtain ⟨a1, a2, a3, a4, a5, a6, a7, a8, a9, a10, a11, a12, a13, a14, a15, a16, a17, a18, a19⟩ := hD.ag (by omega) (fun q => absurd q (by omega)) (fun q => absurd q (by omega)) G
    refine ⟨8, a9, in_n (by omega) (by decide), fun b hbb => ?_, fun σ3 e3 => ?_⟩
    · rw [Option.some.injEq] at hbb; rw [← hbb]; exact t2.1
    · rw [ix_n (by omega)] at e3
      subst e3
      rw [nI_1]
      have ag : ∀ q, q ≠ B + 1 → Ag σ2 (uR σ2 (B + 1) i (some (B + 32 + 11 * i))) q := fun q hq => Ag.uR hq
      refine ih (i + 1) _ (by omega) (by show nx σ2 = _; omega) ⟨a1, a2, a3, a4, a5, a6, a7, a8, a9, fun j hj => ?_, a11, fun j hj => absurd hj (Nat.not_lt_zero _), a13, fun j hj => absurd hj (Nat.not_lt_zero _), a15.ag (fun q q1 q2 => ag q (by omega)), a16.ag (ag _ (by omega)) (ag _ (by omega)), fun j hj => ?_, fun j hj => absurd hj (Nat.not_lt_zero _), fun j hj => absurd hj (Nat.not_lt_zero _)⟩ (by rw [bs_uR, c2, c1, hb]) (by rw [cc_uR]; omega) (by rw [cs_uR]; exact w3) (fun q hq' => ((hq q hq').tr (G q (by omega))).tr (ag q (by omega)))
      · by_cases hji : j = i
        · subst hji; rw [ec]; simp only [eR_s]
        · simp (disch := omega) only [eR_d]; exact a10 j (by omega)
      · by_cases hji : j = i
        · subst hji; rw [ec]; exact t2.ag (fun q hq => ag q (by unfold hP at hq; omega))
        · exact (a17 j (by omega)).ag (fun q hq => ag q (by unfold hP cA at hq; omega))
theorem i_Desk {B : Nat} (hx : nx σ = B + 1) (hb : Bk σ B 0) (h1 : cc σ ≤ 100) (h2 : cs σ ≤ 1000) (hk : ∀ σ', CR σ' B S0 → nx σ' = B + 188 → bs σ' = bs σ → cs σ' ≤ cs σ + 6000 → (∀ q, q < B → Ag σ σ' q) → K (.inl none) σ') : PW (d + 4) M_Desk_init 0 [.ref B, uu] [] σ K := by
  refine e_Desk_init_0 B ⟨by omega, by omega, fun σ1 e1 => ?_⟩
  have g1 : ∀ q, q < B + 1 → Ag σ σ1 q := fun q hq => by rw [e1]; exact Ag.mk (by omega)
  have s1 : sh σ1 (B + 1) = (6, 8) := by rw [e1, ← hx]; exact sh_mk
  have x1 : nx σ1 = B + 2 := by rw [e1, nx_mk, hx]
  have c1 : bs σ1 = bs σ := by rw [e1]; rfl
  have k1 : cc σ1 = cc σ + 1 := by rw [e1]; rfl
  have w1 : cs σ1 = cs σ + 8 := by rw [e1]; rfl
  clear e1
  have b1 := hb.ag (g1 B (by omega))
  refine ⟨b1.1, fun σ2 e2 => ?_⟩
  rw [hx] at e2
  have x2 : nx σ2 = B + 2 := by rw [e2]; exact x1
  have g2 : ∀ q, q ≠ B → Ag σ1 σ2 q := fun q hq => by rw [e2]; exact Ag.pR hq
  have r2 : gR σ2 0 B = some (B + 1) := by rw [e2]; exact gR_s
  have f2 : ∀ f, gI σ2 f B = nI 0 := fun f => by rw [e2]; exact b1.2.1 f
  have o2 : sh σ2 B = (1, 0) := by rw [e2]; exact b1.1
  have c2 : bs σ2 = bs σ := by rw [e2]; exact c1
  have k2 : cc σ2 = cc σ + 1 := by rw [e2]; exact k1
  have w2 : cs σ2 = cs σ + 8 := by rw [e2]; exact w1
  clear e2
  refine ⟨by omega, by omega, fun σ3 e3 => ?_⟩
  have g3 : ∀ q, q < B + 2 → Ag σ2 σ3 q := fun q hq => by rw [e3]; exact Ag.mk (by omega)
  have s3 : sh σ3 (B + 2) = (7, 10) := by rw [e3, ← x2]; exact sh_mk
  have x3 : nx σ3 = B + 3 := by rw [e3, nx_mk, x2]
  have c3 : bs σ3 = bs σ := by rw [e3]; exact c2
  have k3 : cc σ3 = cc σ + 2 := by rw [e3]; show cc σ2 + 1 = _; omega
  have w3 : cs σ3 = cs σ + 18 := by rw [e3]; show cs σ2 + 10 = _; omega
  clear e3
  have o3 : sh σ3 B = (1, 0) := by rw [(g3 B (by omega)).1]; exact o2
  refine ⟨o3, fun σ4 e4 => ?_⟩
  rw [x2] at e4
  have x4 : nx σ4 = B + 3 := by rw [e4]; exact x3
  have g4 : ∀ q, q ≠ B → Ag σ3 σ4 q := fun q hq => by rw [e4]; exact Ag.pR hq
  have r4 : gR σ4 1 B = some (B + 2) ∧ gR σ4 0 B = some (B + 1) := by rw [e4]; exact ⟨gR_s, by simp (disch := omega) only [gR_d]; rw [(g3 B (by omega)).2.2.1]; exact r2⟩
  have f4 : ∀ f, gI σ4 f B = nI 0 := fun f => by rw [e4]; show gI σ3 f B = _; rw [(g3 B (by omega)).2.1]; exact f2 f
  have o4 : sh σ4 B = (1, 0) := by rw [e4]; exact o3
  have c4 : bs σ4 = bs σ := by rw [e4]; exact c3
  have k4 : cc σ4 = cc σ + 2 := by rw [e4]; exact k3
  have w4 : cs σ4 = cs σ + 18 := by rw [e4]; exact w3
  clear e4
  refine ⟨by omega, by omega, fun σ5 e5 => ?_⟩
  have g5 : ∀ q, q < B + 3 → Ag σ4 σ5 q := fun q hq => by rw [e5]; exact Ag.mk (by omega)
  have s5 : sh σ5 (B + 3) = (8, 6) := by rw [e5, ← x4]; exact sh_mk
  have x5 : nx σ5 = B + 4 := by rw [e5, nx_mk, x4]
  have c5 : bs σ5 = bs σ := by rw [e5]; exact c4
  have k5 : cc σ5 = cc σ + 3 := by rw [e5]; show cc σ4 + 1 = _; omega
  have w5 : cs σ5 = cs σ + 24 := by rw [e5]; show cs σ4 + 6 = _; omega
  clear e5
  have o5 : sh σ5 B = (1, 0) := by rw [(g5 B (by omega)).1]; exact o4
  refine ⟨o5, fun σ6 e6 => ?_⟩
  rw [x4] at e6
  have x6 : nx σ6 = B + 4 := by rw [e6]; exact x5
  have g6 : ∀ q, q ≠ B → Ag σ5 σ6 q := fun q hq => by rw [e6]; exact Ag.pR hq
  have r6 : gR σ6 2 B = some (B + 3) ∧ gR σ6 1 B = some (B + 2) ∧ gR σ6 0 B = some (B + 1) := by rw [e6]; exact ⟨gR_s, by simp (disch := omega) only [gR_d]; rw [(g5 B (by omega)).2.2.1]; exact r4.1, by simp (disch := omega) only [gR_d]; rw [(g5 B (by omega)).2.2.1]; exact r4.2⟩
  have f6 : ∀ f, gI σ6 f B = nI 0 := fun f => by rw [e6]; show gI σ5 f B = _; rw [(g5 B (by omega)).2.1]; exact f4 f
  have o6 : sh σ6 B = (1, 0) := by rw [e6]; exact o5
  have c6 : bs σ6 = bs σ := by rw [e6]; exact c5
  have k6 : cc σ6 = cc σ + 3 := by rw [e6]; exact k5
  have w6 : cs σ6 = cs σ + 24 := by rw [e6]; exact w5
  clear e6
  have t6 : sh σ6 (B + 1) = (6, 8) ∧ sh σ6 (B + 2) = (7, 10) ∧ sh σ6 (B + 3) = (8, 6) := ⟨by rw [(g6 _ (by omega)).1, (g5 _ (by omega)).1, (g4 _ (by omega)).1, (g3 _ (by omega)).1, (g2 _ (by omega)).1]; exact s1, by rw [(g6 _ (by omega)).1, (g5 _ (by omega)).1, (g4 _ (by omega)).1]; exact s3, by rw [(g6 _ (by omega)).1]; exact s5⟩
  have L6 : ∀ q, q < B → Ag σ σ6 q := fun q hq => (((((g1 q (by omega)).tr (g2 q (by omega))).tr (g3 q (by omega))).tr (g4 q (by omega))).tr (g5 q (by omega))).tr (g6 q (by omega))
  clear g1 g2 g3 g4 g5 g6
  refine ⟨by omega, by omega, fun σ7 e7 => ?_⟩
  have b7 : Bk σ7 (B + 4) 9 := by rw [e7, ← x6]; exact Bk.mk
  have x7 : nx σ7 = B + 4 + 1 := by rw [e7, nx_mk, x6]
  have g7 : ∀ q, q < B + 4 → Ag σ6 σ7 q := fun q hq => by rw [e7]; exact Ag.mk (by omega)
  have c7 : bs σ7 = bs σ := by rw [e7]; exact c6
  have k7 : cc σ7 = cc σ + 4 := by rw [e7]; show cc σ6 + 1 = _; omega
  have w7 : cs σ7 = cs σ + 26 := by rw [e7]; show cs σ6 + 2 = _; omega
  clear e7
  rw [x6]
  refine i_Routes (d := d + 1) x7 b7 (by omega) (by omega) (fun σ8 t8 n8 => ?_)
  simp only [kV_v]
  have x8 := nx_of x7 n8
  obtain ⟨c8, k8, w8, g8⟩ := n8
  have G8 : ∀ q, q < B + 4 → Ag σ6 σ8 q := fun q hq => (g7 q hq).tr (g8 q hq)
  have o8 : sh σ8 B = (1, 0) := by rw [(G8 B (by omega)).1]; exact o6
  refine ⟨o8, fun σ9 e9 => ?_⟩
  have x9 : nx σ9 = B + 30 := by rw [e9]; show nx σ8 = _; omega
  have g9 : ∀ q, q ≠ B → Ag σ8 σ9 q := fun q hq => by rw [e9]; exact Ag.pR hq
  have r9 : gR σ9 3 B = some (B + 4) ∧ gR σ9 2 B = some (B + 3) ∧ gR σ9 1 B = some (B + 2) ∧ gR σ9 0 B = some (B + 1) := by rw [e9]; exact ⟨gR_s, by simp (disch := omega) only [gR_d]; rw [(G8 B (by omega)).2.2.1]; exact r6.1, by simp (disch := omega) only [gR_d]; rw [(G8 B (by omega)).2.2.1]; exact r6.2.1, by simp (disch := omega) only [gR_d]; rw [(G8 B (by omega)).2.2.1]; exact r6.2.2⟩
  have f9 : ∀ f, gI σ9 f B = nI 0 := fun f => by rw [e9]; show gI σ8 f B = _; rw [(G8 B (by omega)).2.1]; exact f6 f
  have o9 : sh σ9 B = (1, 0) := by rw [e9]; exact o8
  have c9 : bs σ9 = bs σ := by rw [e9]; show bs σ8 = _; rw [c8, c7]
  have k9 : cc σ9 = cc σ + 29 := by rw [e9]; show cc σ8 = _; omega
  have w9 : cs σ9 ≤ cs σ + 226 := by rw [e9]; show cs σ8 ≤ _; omega
  clear e9
  refine ⟨by omega, by omega, fun σ10 e10 => ?_⟩
  have b10 : Bk σ10 (B + 30) 10 := by rw [e10, ← x9]; exact Bk.mk
  have x10 : nx σ10 = B + 30 + 1 := by rw [e10, nx_mk, x9]
  have g10 : ∀ q, q < B + 30 → Ag σ9 σ10 q := fun q hq => by rw [e10]; exact Ag.mk (by omega)
  have c10 : bs σ10 = bs σ := by rw [e10]; exact c9
  have k10 : cc σ10 = cc σ + 30 := by rw [e10]; show cc σ9 + 1 = _; omega
  have w10 : cs σ10 ≤ cs σ + 233 := by rw [e10]; show cs σ9 + 7 ≤ _; omega
  clear e10
  rw [x9]
  refine i_Header (d := d + 2) x10 b10 ⟨by omega, by omega⟩ (fun σ11 t11 n11 => ?_)
  simp only [kV_v]
  have x11 := nx_of x10 n11
  obtain ⟨c11, k11, w11, g11⟩ := n11
  have G11 : ∀ q, q < B + 30 → Ag σ9 σ11 q := fun q hq => (g10 q hq).tr (g11 q hq)
  have o11 : sh σ11 B = (1, 0) := by rw [(G11 B (by omega)).1]; exact o9
  refine ⟨o11, fun σ12 e12 => ?_⟩
  have g12 : ∀ q, q ≠ B → Ag σ11 σ12 q := fun q hq => by rw [e12]; exact Ag.pR hq
  have H : ∀ q, q ≠ B → q < B + 4 → Ag σ6 σ12 q := fun q q1 q2 => (((G8 q q2).tr (g9 q q1)).tr (G11 q (by omega))).tr (g12 q q1)
  have L12 : ∀ q, q < B → Ag σ σ12 q := fun q hq => (L6 q hq).tr (H q (by omega) (by omega))
  have D : DB σ12 B 0 0 0 := by
    refine ⟨by rw [e12]; exact o11, ?_, ?_, ?_, ?_, by rw [e12]; exact gR_s, ?_, ?_, by rw [(H _ (by omega) (by omega)).1]; exact t6.1, fun j hj => absurd hj (Nat.not_lt_zero _), by rw [(H _ (by omega) (by omega)).1]; exact t6.2.1, fun j hj => absurd hj (Nat.not_lt_zero _), by rw [(H _ (by omega) (by omega)).1]; exact t6.2.2, fun j hj => absurd hj (Nat.not_lt_zero _), ?_, t11.ag (g12 _ (by omega)) (g12 _ (by omega)), fun j hj => absurd hj (Nat.not_lt_zero _), fun j hj => absurd hj (Nat.not_lt_zero _), fun j hj => absurd hj (Nat.not_lt_zero _)⟩
    · rw [e12]; simp (disch := omega) only [gR_d]; rw [(G11 B (by omega)).2.2.1]; exact r9.2.2.2
    · rw [e12]; simp (disch := omega) only [gR_d]; rw [(G11 B (by omega)).2.2.1]; exact r9.2.2.1
    · rw [e12]; simp (disch := omega) only [gR_d]; rw [(G11 B (by omega)).2.2.1]; exact r9.2.1
    · rw [e12]; simp (disch := omega) only [gR_d]; rw [(G11 B (by omega)).2.2.1]; exact r9.1
    · rw [e12]; show gI σ11 5 B = _; rw [(G11 B (by omega)).2.1]; exact f9 5
    · rw [e12]; show gI σ11 6 B = _; rw [(G11 B (by omega)).2.1]; exact f9 6
    · exact t8.ag (fun q q1 q2 => ((g9 q (by omega)).tr (G11 q (by omega))).tr (g12 q (by omega)))
  have x12 : nx σ12 = B + 32 := by rw [e12]; show nx σ11 = _; omega
  have c12 : bs σ12 = bs σ := by rw [e12]; show bs σ11 = _; rw [c11, c10]
  have k12 : cc σ12 = cc σ + 31 := by rw [e12]; show cc σ11 = _; omega
  have w12 : cs σ12 ≤ cs σ + 237 := by rw [e12]; show cs σ11 ≤ _; omega
  clear e12
  refine desk_channels (d := d) (σ0 := σ12) (fun σa xa Da ca ka wa La => ?_) (by omega) (by omega) 8 0 σ12 (by omega) (by omega) D rfl (by omega) (by omega) (fun q _ => Ag.rf)
  refine desk_messages (d := d + 1) (σ0 := σa) (fun σb xb Db cb kb wb Lb => ?_) (by omega) (by omega) 10 0 σa (by omega) (by omega) Da rfl (by omega) (by omega) (fun q _ => Ag.rf)
  refine desk_cases (d := d + 1) (σ0 := σb) (fun σc Dc cc' kc wc Lc => ?_) (by omega) (by omega) 6 0 σb (by omega) (by omega) Db rfl (by omega) (by omega) (fun q _ => Ag.rf)
  obtain ⟨a1, a2, a3, a4, a5, a6, a7, a8, a9, a10, a11, a12, a13, a14, a15, a16, a17, a18, a19⟩ := Dc
  refine hk σc ⟨⟨a1, a2, a3, a4, a5, a6, a7, a8, a9, a10, a11, a12, a13, a14⟩, a15, a16, fun c hc => a17 c hc, fun m m1 m2 => ?_, fun i hi => a19 i hi⟩ ?_ ?_ ?_ (fun q hq => (((L12 q hq).tr (La q hq)).tr (Lb q hq)).tr (Lc q hq))
  · have := a18 (m - 1) (by omega)
    rw [show m - 1 + 1 = m by omega] at this
    exact this
  · unfold nx at *; omega
  · rw [cc', cb, ca, c12]
  · omega
end Init2
