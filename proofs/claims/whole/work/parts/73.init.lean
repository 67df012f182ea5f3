/-! ===== constructors of the class ===== -/
def Ro (σ : PH) : Prop := cc σ ≤ 1000 ∧ cs σ ≤ 100000
def Bk (σ : PH) (x k : Nat) : Prop := sh σ x = (1, k) ∧ (∀ f, gI σ f x = nI 0) ∧ ∀ f, gR σ f x = none
def Nw (x n w : Nat) (σ σ' : PH) : Prop := bs σ' = bs σ ∧ cc σ' + 1 = cc σ + n ∧ cs σ' ≤ cs σ + w ∧ ∀ q, q < x → Ag σ σ' q
section Init
variable {d : Nat} {σ σ' σ'' : PH} {K : PO → PH → Prop} {x : Nat}
theorem nx_mk {s : Nat × Nat} {n : Nat} : nx (mk σ s n) = nx σ + 1 := rfl
theorem Bk.mk {k n : Nat} : Bk (mk σ (1, k) n) (nx σ) k := by
  refine ⟨sh_mk, fun f => ?_, fun f => ?_⟩
  · show zr2 (gI σ) (nx σ) 0 f (nx σ) = _
    unfold zr2; rw [if_pos rfl]; rfl
  · show zr2 (gR σ) (nx σ) none f (nx σ) = _
    unfold zr2; rw [if_pos rfl]
theorem Bk.ag {k : Nat} (h : Bk σ x k) (h1 : Ag σ σ' x) : Bk σ' x k := ⟨by rw [h1.1]; exact h.1, fun f => by rw [h1.2.1]; exact h.2.1 f, fun f => by rw [h1.2.2.1]; exact h.2.2 f⟩
theorem eI_mk {s : Nat × Nat} {n j : Nat} : eI (mk σ s n) (nx σ) j = nI 0 := by
  show zr1 (eI σ) (nx σ) 0 (nx σ) j = _
  unfold zr1; rw [if_pos rfl]; rfl
theorem eR_mk {s : Nat × Nat} {n j : Nat} : eR (mk σ s n) (nx σ) j = none := by
  show zr1 (eR σ) (nx σ) none (nx σ) j = _
  unfold zr1; rw [if_pos rfl]
theorem i_Text {cap : Nat} (hx : nx σ = x + 1) (hb : Bk σ x 3) (hc : cap ≤ 70) (hr : Ro σ) (hk : ∀ σ', TX σ' x cap [] → Nw x 2 70 σ σ' → K (.inl none) σ') : PW (d + 1) M_Text_init 0 [.ref x, .int (nI cap)] [] σ K := by
  obtain ⟨r1, r2⟩ := hr
  refine e_Text_init_0 x _ ⟨cap, ⟨rfl, by omega⟩, by omega, by omega, fun σ1 e1 => ?_⟩
  have g1 : Ag σ σ1 x := by rw [e1]; exact Ag.mk (by omega)
  have b1 := hb.ag g1
  have h1 : sh σ1 (x + 1) = (3, cap) := by rw [e1, ← hx]; exact sh_mk
  refine ⟨b1.1, fun σ2 e2 => hk σ2 ⟨?_, ?_, ?_, ?_, by simp, by omega, fun i hi => absurd hi (Nat.not_lt_zero _), fun z hz => absurd hz (List.not_mem_nil)⟩ ⟨?_, ?_, ?_, fun q hq => ?_⟩⟩
  · rw [e2]; exact b1.1
  · rw [e2, hx]; exact gR_s
  · rw [e2]; exact h1
  · rw [e2]; exact b1.2.1 193
  · rw [e2, e1]; rfl
  · rw [e2, e1]; rfl
  · rw [e2, e1]; show cs σ + cap ≤ _; omega
  · rw [e2, e1]; exact (Ag.mk (by omega)).tr (Ag.pR (by omega))
theorem i_Route (hx : nx σ = x + 1) (hb : Bk σ x 8) (hr : Ro σ) (hk : ∀ σ', RT σ' x r0 → Nw x 2 4 σ σ' → K (.inl none) σ') : PW (d + 1) M_Route_init 0 [.ref x] [] σ K := by
  obtain ⟨r1, r2⟩ := hr
  refine e_Route_init_0 x ⟨by omega, by omega, fun σ1 e1 => ?_⟩
  have g1 : Ag σ σ1 x := by rw [e1]; exact Ag.mk (by omega)
  have b1 := hb.ag g1
  have h1 : sh σ1 (x + 1) = (2, 4) := by rw [e1, ← hx]; exact sh_mk
  refine ⟨b1.1, fun σ2 e2 => hk σ2 ⟨?_, ?_, ?_, ?_, ?_, ?_, ?_, by decide, fun i hi => absurd hi (Nat.not_lt_zero _), by decide, by decide, by decide, fun z hz => absurd hz (List.not_mem_nil)⟩ ⟨?_, ?_, ?_, fun q hq => ?_⟩⟩
  · rw [e2]; exact b1.1
  · rw [e2, hx]; exact gR_s
  · rw [e2]; exact h1
  · rw [e2]; exact b1.2.1 512
  · rw [e2]; exact b1.2.1 513
  · rw [e2]; exact b1.2.1 514
  · rw [e2]; exact b1.2.1 516
  · rw [e2, e1]; rfl
  · rw [e2, e1]; rfl
  · rw [e2, e1]; show cs σ + 4 ≤ _; omega
  · rw [e2, e1]; exact (Ag.mk (by omega)).tr (Ag.pR (by omega))
theorem i_Header (hx : nx σ = x + 1) (hb : Bk σ x 10) (hr : Ro σ) (hk : ∀ σ', HD σ' x → Nw x 2 4 σ σ' → K (.inl none) σ') : PW (d + 1) M_Header_init 0 [.ref x] [] σ K := by
  obtain ⟨r1, r2⟩ := hr
  refine e_Header_init_0 x ⟨by omega, by omega, fun σ1 e1 => ?_⟩
  have g1 : Ag σ σ1 x := by rw [e1]; exact Ag.mk (by omega)
  have b1 := hb.ag g1
  have h1 : sh σ1 (x + 1) = (2, 4) := by rw [e1, ← hx]; exact sh_mk
  refine ⟨b1.1, fun σ2 e2 => hk σ2 ⟨?_, ?_, ?_⟩ ⟨?_, ?_, ?_, fun q hq => ?_⟩⟩
  · rw [e2]; exact b1.1
  · rw [e2, hx]; exact gR_s
  · rw [e2]; exact h1
  · rw [e2, e1]; rfl
  · rw [e2, e1]; rfl
  · rw [e2, e1]; show cs σ + 4 ≤ _; omega
  · rw [e2, e1]; exact (Ag.mk (by omega)).tr (Ag.pR (by omega))
theorem i_Numbers (hx : nx σ = x + 1) (hb : Bk σ x 4) (hr : Ro σ) (hk : ∀ σ', NU σ' x 999 [] → Nw x 2 30 σ σ' → K (.inl none) σ') : PW (d + 1) M_Numbers_init 0 [.ref x] [] σ K := by
  obtain ⟨r1, r2⟩ := hr
  refine e_Numbers_init_0 x ⟨hb.1, fun σ0 e0 => ?_⟩
  subst e0
  refine ⟨by show cc σ + 1 ≤ 601024; omega, by show cs σ + 30 ≤ _; omega, fun σ1 e1 => ?_⟩
  have hx' : nx (pI σ 256 x 999) = x + 1 := hx
  have g1 : Ag (pI σ 256 x 999) σ1 x := by rw [e1]; exact Ag.mk (by omega)
  have h1 : sh σ1 (x + 1) = (2, 30) := by rw [e1, ← hx']; exact sh_mk
  have s1 : sh σ1 x = (1, 4) := by rw [g1.1]; exact hb.1
  refine ⟨s1, fun σ2 e2 => hk σ2 ⟨?_, ?_, ?_, ?_, ?_, by simp, fun i hi => absurd hi (Nat.not_lt_zero _), fun z hz => absurd hz (List.not_mem_nil), by decide, by decide⟩ ⟨?_, ?_, ?_, fun q hq => ?_⟩⟩
  · rw [e2]; exact s1
  · rw [e2, hx']; exact gR_s
  · rw [e2]; exact h1
  · rw [e2]; show gI σ1 256 x = _; rw [g1.2.1]; exact gI_s
  · rw [e2]; show gI σ1 258 x = _; rw [g1.2.1]; simp (disch := omega) only [gI_d]; exact hb.2.1 258
  · rw [e2, e1]; rfl
  · rw [e2, e1]; rfl
  · rw [e2, e1]; show cs σ + 30 ≤ _; omega
  · rw [e2, e1]; exact ((Ag.pI (by omega)).tr (Ag.mk (by omega))).tr (Ag.pR (by omega))
theorem nx_of {n w : Nat} (hx : nx σ = x + 1) (h : Nw x n w σ σ') : nx σ' = x + n := by
  obtain ⟨h1, h2, h3, h4⟩ := h
  unfold nx at *
  omega
theorem Ro.nw {n w : Nat} (hr : Ro σ) (h : Nw x n w σ σ') : cc σ' + 1 ≤ cc σ + n ∧ cs σ' ≤ cs σ + w := ⟨by have := h.2.1; omega, h.2.2.1⟩
theorem i_Intake (hx : nx σ = x + 1) (hb : Bk σ x 2) (h1 : cc σ ≤ 900) (h2 : cs σ ≤ 90000) (hk : ∀ σ', IN σ' x [] false → Nw x 3 72 σ σ' → K (.inl none) σ') : PW (d + 2) M_Intake_init 0 [.ref x] [] σ K := by
  refine e_Intake_init_0 x ⟨by omega, by omega, fun σ1 e1 => ?_⟩
  have g1 : Ag σ σ1 x := by rw [e1]; exact Ag.mk (by omega)
  have bT : Bk σ1 (x + 1) 3 := by rw [e1, ← hx]; exact Bk.mk
  have hx1 : nx σ1 = x + 1 + 1 := by rw [e1, nx_mk, hx]
  have k1 : cc σ1 = cc σ + 1 := by rw [e1]; rfl
  have k2 : cs σ1 = cs σ + 2 := by rw [e1]; rfl
  rw [hx]
  refine i_Text (cap := 60) hx1 bT (by omega) ⟨by omega, by omega⟩ (fun σ2 t2 n2 => ?_)
  simp only [kV_v]
  have b2 := (hb.ag g1).ag (n2.2.2.2 x (by omega))
  refine ⟨b2.1, fun σ3 e3 => hk σ3 ⟨?_, ?_, ?_, ?_, ?_, ?_, ?_⟩ ⟨?_, ?_, ?_, fun q hq => ?_⟩⟩
  · rw [e3]; exact b2.1
  · rw [e3]; exact gR_s
  · rw [e3]; exact t2.ag (Ag.pR (by omega)) (Ag.pR (by omega))
  · rw [e3]; exact b2.2.1 129
  · rw [e3]; exact b2.2.1 130
  · rw [e3]; exact b2.2.1 131
  · rw [e3]; exact b2.2.1 132
  · rw [e3]; show bs σ2 = _; rw [n2.1, e1]; rfl
  · rw [e3]; show cc σ2 + 1 = _; rw [n2.2.1, k1]
  · rw [e3]; show cs σ2 ≤ _; have := n2.2.2.1; omega
  · have a1 : Ag σ σ1 q := by rw [e1]; exact Ag.mk (by omega)
    rw [e3]; exact (a1.tr (n2.2.2.2 q (by omega))).tr (Ag.pR (by omega))
theorem i_Case (hx : nx σ = x + 1) (hb : Bk σ x 7) (h1 : cc σ ≤ 900) (h2 : cs σ ≤ 90000) (hk : ∀ σ', CA σ' x (0, []) → Nw x 3 72 σ σ' → K (.inl none) σ') : PW (d + 2) M_Case_init 0 [.ref x] [] σ K := by
  refine e_Case_init_0 x ⟨by omega, by omega, fun σ1 e1 => ?_⟩
  have g1 : Ag σ σ1 x := by rw [e1]; exact Ag.mk (by omega)
  have bT : Bk σ1 (x + 1) 3 := by rw [e1, ← hx]; exact Bk.mk
  have hx1 : nx σ1 = x + 1 + 1 := by rw [e1, nx_mk, hx]
  have k1 : cc σ1 = cc σ + 1 := by rw [e1]; rfl
  have k2 : cs σ1 = cs σ + 2 := by rw [e1]; rfl
  rw [hx]
  refine i_Text (cap := 60) hx1 bT (by omega) ⟨by omega, by omega⟩ (fun σ2 t2 n2 => ?_)
  simp only [kV_v]
  have b2 := (hb.ag g1).ag (n2.2.2.2 x (by omega))
  refine ⟨b2.1, fun σ3 e3 => hk σ3 ⟨?_, ?_, ?_, by decide, ?_⟩ ⟨?_, ?_, ?_, fun q hq => ?_⟩⟩
  · rw [e3]; exact b2.1
  · rw [e3]; exact gR_s
  · rw [e3]; exact b2.2.1 448
  · rw [e3]; exact t2.ag (Ag.pR (by omega)) (Ag.pR (by omega))
  · rw [e3]; show bs σ2 = _; rw [n2.1, e1]; rfl
  · rw [e3]; show cc σ2 + 1 = _; rw [n2.2.1, k1]
  · rw [e3]; show cs σ2 ≤ _; have := n2.2.2.1; omega
  · have a1 : Ag σ σ1 q := by rw [e1]; exact Ag.mk (by omega)
    rw [e3]; exact (a1.tr (n2.2.2.2 q (by omega))).tr (Ag.pR (by omega))
theorem i_Message (hx : nx σ = x + 1) (hb : Bk σ x 6) (h1 : cc σ ≤ 900) (h2 : cs σ ≤ 90000) (hk : ∀ σ', ME σ' x ms0 → Nw x 5 84 σ σ' → K (.inl none) σ') : PW (d + 2) M_Message_init 0 [.ref x] [] σ K := by
  refine e_Message_init_0 x ⟨by omega, by omega, fun σ1 e1 => ?_⟩
  have g1 : Ag σ σ1 x := by rw [e1]; exact Ag.mk (by omega)
  have s1 : sh σ1 (x + 1) = (2, 4) := by rw [e1, ← hx]; exact sh_mk
  have b1 := hb.ag g1
  have hx1 : nx σ1 = x + 2 := by rw [e1, nx_mk, hx]
  have c1 : bs σ1 = bs σ := by rw [e1]; rfl
  have k1 : cc σ1 = cc σ + 1 := by rw [e1]; rfl
  have k2 : cs σ1 = cs σ + 4 := by rw [e1]; rfl
  have l1 : ∀ q, q < x → Ag σ σ1 q := fun q hq => by rw [e1]; exact Ag.mk (by omega)
  clear e1
  refine ⟨b1.1, fun σ2 e2 => ?_⟩
  rw [hx] at e2
  subst e2
  refine ⟨by show cc σ1 + 1 ≤ _; omega, by show cs σ1 + 2 ≤ _; omega, fun σ3 e3 => ?_⟩
  have hx2 : nx (pR σ1 385 x (some (x + 1))) = x + 2 := hx1
  have hx3 : nx σ3 = x + 2 + 1 := by rw [e3, nx_mk, hx2]
  have g3 : Ag (pR σ1 385 x (some (x + 1))) σ3 x := by rw [e3]; exact Ag.mk (by omega)
  have g3' : Ag (pR σ1 385 x (some (x + 1))) σ3 (x + 1) := by rw [e3]; exact Ag.mk (by omega)
  have bT : Bk σ3 (x + 2) 3 := by rw [e3, ← hx2]; exact Bk.mk
  have c3 : bs σ3 = bs σ := by rw [e3]; exact c1
  have k3 : cc σ3 = cc σ + 2 := by rw [e3]; show cc σ1 + 1 = _; omega
  have k4 : cs σ3 = cs σ + 6 := by rw [e3]; show cs σ1 + 2 = _; omega
  have l3 : ∀ q, q < x → Ag σ σ3 q := fun q hq => by rw [e3]; exact ((l1 q hq).tr (Ag.pR (by omega))).tr (Ag.mk (by omega))
  clear e3
  rw [hx2]
  refine i_Text (cap := 60) hx3 bT (by omega) ⟨by omega, by omega⟩ (fun σ4 t4 n4 => ?_)
  simp only [kV_v]
  have hx4 := nx_of hx3 n4
  have g4 := g3.tr (n4.2.2.2 x (by omega))
  have g4' := g3'.tr (n4.2.2.2 (x + 1) (by omega))
  refine ⟨by rw [g4.1]; exact b1.1, fun σ5 e5 => ?_⟩
  subst e5
  have k5 := n4.2.1
  have k6 := n4.2.2.1
  refine ⟨by show cc σ4 + 1 ≤ _; omega, by show cs σ4 + 8 ≤ _; omega, fun σ6 e6 => ?_⟩
  have hx5 : nx (pR σ4 387 x (some (x + 2))) = x + 4 := by show nx σ4 = _; rw [hx4]
  have g6 : ∀ q, q ≠ x + 4 → Ag (pR σ4 387 x (some (x + 2))) σ6 q := fun q hq => by rw [e6]; exact Ag.mk (by omega)
  have s6 : sh σ6 (x + 4) = (2, 8) := by rw [e6, ← hx5]; exact sh_mk
  have z6 : ∀ j, eI σ6 (x + 4) j = nI 0 := fun j => by rw [e6, ← hx5]; exact eI_mk
  have c6 : bs σ6 = bs σ4 := by rw [e6]; rfl
  have k7 : cc σ6 = cc σ4 + 1 := by rw [e6]; rfl
  have k8 : cs σ6 = cs σ4 + 8 := by rw [e6]; rfl
  clear e6
  have o6 : sh σ6 x = (1, 6) := by rw [(g6 x (by omega)).1]; show sh σ4 x = _; rw [g4.1]; exact b1.1
  refine ⟨o6, fun σ7 e7 => ?_⟩
  rw [hx5] at e7
  subst e7
  have fI6 : ∀ f, gI σ6 f x = nI 0 := fun f => by rw [(g6 x (by omega)).2.1]; show gI σ4 f x = _; rw [g4.2.1]; exact b1.2.1 f
  refine hk _ ⟨o6, ?_, ?_, ?_, ?_, gR_s, s6, fI6 384, by decide, fI6 386, by decide, fun i hi => absurd hi (Nat.not_lt_zero _), fun k hk => absurd hk (List.not_mem_nil), fun c hc => ⟨z6 c, by show 0 < 2000; omega⟩, by decide⟩ ⟨?_, ?_, ?_, fun q hq => ?_⟩
  · simp (disch := omega) only [gR_d]; rw [(g6 x (by omega)).2.2.1]; simp (disch := omega) only [gR_d]; rw [g4.2.2.1]; exact gR_s
  · show sh σ6 (x + 1) = _; rw [(g6 (x + 1) (by omega)).1]; show sh σ4 (x + 1) = _; rw [g4'.1]; exact s1
  · simp (disch := omega) only [gR_d]; rw [(g6 x (by omega)).2.2.1]; exact gR_s
  · exact t4.ag (((Ag.pR (by omega)).tr (g6 (x + 2) (by omega))).tr (Ag.pR (by omega))) (((Ag.pR (by omega)).tr (g6 (x + 2 + 1) (by omega))).tr (Ag.pR (by omega)))
  · show bs σ6 = _; rw [c6, n4.1]; exact c3
  · show cc σ6 + 1 = _; omega
  · show cs σ6 ≤ _; omega
  · exact ((((l3 q hq).tr (n4.2.2.2 q (by omega))).tr (Ag.pR (by omega))).tr (g6 q (by omega))).tr (Ag.pR (by omega))
theorem i_Outlet {c : Nat} (hc : c < 8) (hx : nx σ = x + 1) (hb : Bk σ x 5) (h1 : cc σ ≤ 900) (h2 : cs σ ≤ 90000) (hk : ∀ σ', OU σ' x c none 0 false 0 [] [] [] 0 false → Nw x 5 80 σ σ' → K (.inl none) σ') : PW (d + 2) M_Outlet_init 0 [.ref x, .int (nI c)] [] σ K := by
  refine e_Outlet_init_0 x _ ⟨by omega, by omega, fun σ1 e1 => ?_⟩
  have g1 : Ag σ σ1 x := by rw [e1]; exact Ag.mk (by omega)
  have bT : Bk σ1 (x + 1) 3 := by rw [e1, ← hx]; exact Bk.mk
  have hx1 : nx σ1 = x + 1 + 1 := by rw [e1, nx_mk, hx]
  have c1 : bs σ1 = bs σ := by rw [e1]; rfl
  have k1 : cc σ1 = cc σ + 1 := by rw [e1]; rfl
  have k2 : cs σ1 = cs σ + 2 := by rw [e1]; rfl
  have l1 : ∀ q, q < x → Ag σ σ1 q := fun q hq => by rw [e1]; exact Ag.mk (by omega)
  clear e1
  rw [hx]
  refine i_Text (cap := 68) hx1 bT (by omega) ⟨by omega, by omega⟩ (fun σ2 t2 n2 => ?_)
  simp only [kV_v]
  have hx2 := nx_of hx1 n2
  have k3 := n2.2.1
  have k4 := n2.2.2.1
  have b2 := (hb.ag g1).ag (n2.2.2.2 x (by omega))
  have l2 : ∀ q, q < x → Ag σ σ2 q := fun q hq => (l1 q hq).tr (n2.2.2.2 q (by omega))
  have c2 : bs σ2 = bs σ := n2.1.trans c1
  refine ⟨b2.1, fun σ3 e3 => ?_⟩
  subst e3
  refine ⟨by show cc σ2 + 1 ≤ _; omega, by show cs σ2 + 3 ≤ _; omega, fun σ4 e4 => ?_⟩
  have hx3 : nx (pR σ2 321 x (some (x + 1))) = x + 3 := by show nx σ2 = _; rw [hx2]
  have g4 : ∀ q, q ≠ x + 3 → Ag (pR σ2 321 x (some (x + 1))) σ4 q := fun q hq => by rw [e4]; exact Ag.mk (by omega)
  have s4 : sh σ4 (x + 3) = (7, 3) := by rw [e4, ← hx3]; exact sh_mk
  have hx4 : nx σ4 = x + 4 := by rw [e4, nx_mk, hx3]
  have c4 : bs σ4 = bs σ2 := by rw [e4]; rfl
  have k5 : cc σ4 = cc σ2 + 1 := by rw [e4]; rfl
  have k6 : cs σ4 = cs σ2 + 3 := by rw [e4]; rfl
  clear e4
  have o4 : sh σ4 x = (1, 5) := by rw [(g4 x (by omega)).1]; exact b2.1
  refine ⟨o4, fun σ5 e5 => ?_⟩
  rw [hx3] at e5
  subst e5
  refine ⟨by show cc σ4 + 1 ≤ _; omega, by show cs σ4 + 3 ≤ _; omega, fun σ6 e6 => ?_⟩
  have hx5 : nx (pR σ4 328 x (some (x + 3))) = x + 4 := hx4
  have g6 : ∀ q, q ≠ x + 4 → Ag (pR σ4 328 x (some (x + 3))) σ6 q := fun q hq => by rw [e6]; exact Ag.mk (by omega)
  have s6 : sh σ6 (x + 4) = (7, 3) := by rw [e6, ← hx5]; exact sh_mk
  have z6 : ∀ j, eR σ6 (x + 4) j = none := fun j => by rw [e6, ← hx5]; exact eR_mk
  have c6 : bs σ6 = bs σ4 := by rw [e6]; rfl
  have k7 : cc σ6 = cc σ4 + 1 := by rw [e6]; rfl
  have k8 : cs σ6 = cs σ4 + 3 := by rw [e6]; rfl
  clear e6
  have o6 : sh σ6 x = (1, 5) := by rw [(g6 x (by omega)).1]; exact o4
  refine ⟨o6, fun σ7 e7 => ?_⟩
  rw [hx5] at e7
  subst e7
  refine ⟨o6, fun σ8 e8 => ?_⟩
  subst e8
  have fI6 : ∀ f, gI σ6 f x = nI 0 := fun f => by rw [(g6 x (by omega)).2.1]; show gI σ4 f x = _; rw [(g4 x (by omega)).2.1]; exact b2.2.1 f
  refine hk _ ⟨o6, gI_s, hc, ?_, ?_, ?_, by decide, ?_, ?_, ?_, by decide, ?_, ?_, by decide, ?_, ?_, ?_, by decide, fun i hi => absurd hi (Nat.not_lt_zero _), ?_, s6, by decide, fun i hi => ?_⟩ ⟨?_, ?_, ?_, fun q hq => ?_⟩
  · show gR (pR σ6 330 x (some (x + 4))) 321 x = _
    simp (disch := omega) only [gR_d]; rw [(g6 x (by omega)).2.2.1]; simp (disch := omega) only [gR_d]; rw [(g4 x (by omega)).2.2.1]; exact gR_s
  · have a : ∀ q, q ≠ x → q < x + 3 → Ag σ2 (pI (pR σ6 330 x (some (x + 4))) 320 x (nI c)) q := fun q q1 q2 => (((((Ag.pR (by omega)).tr (g4 q (by omega))).tr (Ag.pR (by omega))).tr (g6 q (by omega))).tr (Ag.pR (by omega))).tr (Ag.pI (by omega))
    exact t2.ag (a _ (by omega) (by omega)) (a _ (by omega) (by omega))
  · simp (disch := omega) only [gI_d]; exact fI6 322
  · simp (disch := omega) only [gI_d]; exact fI6 323
  · show gR (pR σ6 330 x (some (x + 4))) 324 x = _
    simp (disch := omega) only [gR_d]; rw [(g6 x (by omega)).2.2.1]; simp (disch := omega) only [gR_d]; rw [(g4 x (by omega)).2.2.1]; simp (disch := omega) only [gR_d]; exact b2.2.2 324
  · simp (disch := omega) only [gI_d]; exact fI6 325
  · simp (disch := omega) only [gI_d]; exact fI6 326
  · simp (disch := omega) only [gI_d]; exact fI6 327
  · show gR (pR σ6 330 x (some (x + 4))) 328 x = _
    simp (disch := omega) only [gR_d]; rw [(g6 x (by omega)).2.2.1]; exact gR_s
  · show sh σ6 (x + 3) = _; rw [(g6 (x + 3) (by omega)).1]; exact s4
  · simp (disch := omega) only [gI_d]; exact fI6 329
  · exact gR_s
  · show eR σ6 (x + 4) i = _; rw [z6 i]; rfl
  · show bs σ6 = _; rw [c6, c4]; exact c2
  · show cc σ6 + 1 = _; omega
  · show cs σ6 ≤ _; omega
  · exact ((((((l2 q hq).tr (Ag.pR (by omega))).tr (g4 q (by omega))).tr (Ag.pR (by omega))).tr (g6 q (by omega))).tr (Ag.pR (by omega))).tr (Ag.pI (by omega))
end Init
