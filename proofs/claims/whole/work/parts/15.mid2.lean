theorem fl_Message_9 : FL "RelayDesk$Message" 9 6 1 := ⟨by decide, by decide, Or.inl (List.mem_of_getElem? (i := 306) (by decide +kernel))⟩
theorem fl_Message_20 : FL "RelayDesk$Message" 20 6 3 := ⟨by decide, by decide, Or.inl (List.mem_of_getElem? (i := 308) (by decide +kernel))⟩
theorem fl_Message_24 : FL "RelayDesk$Message" 24 6 4 := ⟨by decide, by decide, Or.inl (List.mem_of_getElem? (i := 309) (by decide +kernel))⟩
theorem fl_Message_27 : FL "RelayDesk$Message" 27 10 1 := ⟨by decide, by decide, Or.inr ⟨"RelayDesk", List.mem_of_getElem? (i := 149) (by decide +kernel)⟩⟩
theorem fl_Message_33 : FL "RelayDesk$Message" 33 6 0 := ⟨by decide, by decide, Or.inl (List.mem_of_getElem? (i := 304) (by decide +kernel))⟩
theorem fl_Message_34 : FL "RelayDesk$Message" 34 10 3 := ⟨by decide, by decide, Or.inr ⟨"RelayDesk", List.mem_of_getElem? (i := 154) (by decide +kernel)⟩⟩
theorem fl_Message_43 : FL "RelayDesk$Message" 43 6 2 := ⟨by decide, by decide, Or.inl (List.mem_of_getElem? (i := 307) (by decide +kernel))⟩
theorem fl_Message_44 : FL "RelayDesk$Message" 44 10 2 := ⟨by decide, by decide, Or.inr ⟨"RelayDesk", List.mem_of_getElem? (i := 152) (by decide +kernel)⟩⟩
theorem fl_Message_66 : FL "RelayDesk$Message" 66 3 1 := ⟨by decide, by decide, Or.inr ⟨"RelayDesk", List.mem_of_getElem? (i := 194) (by decide +kernel)⟩⟩
theorem fl_Outlet_14 : FL "RelayDesk$Outlet" 14 5 1 := ⟨by decide, by decide, Or.inl (List.mem_of_getElem? (i := 246) (by decide +kernel))⟩
theorem fl_Outlet_22 : FL "RelayDesk$Outlet" 22 5 8 := ⟨by decide, by decide, Or.inl (List.mem_of_getElem? (i := 253) (by decide +kernel))⟩
theorem fl_Outlet_26 : FL "RelayDesk$Outlet" 26 5 10 := ⟨by decide, by decide, Or.inl (List.mem_of_getElem? (i := 256) (by decide +kernel))⟩
theorem fl_Outlet_29 : FL "RelayDesk$Outlet" 29 5 0 := ⟨by decide, by decide, Or.inl (List.mem_of_getElem? (i := 245) (by decide +kernel))⟩
theorem fl_Outlet_33 : FL "RelayDesk$Outlet" 33 5 4 := ⟨by decide, by decide, Or.inl (List.mem_of_getElem? (i := 249) (by decide +kernel))⟩
theorem fl_Outlet_37 : FL "RelayDesk$Outlet" 37 5 2 := ⟨by decide, by decide, Or.inl (List.mem_of_getElem? (i := 247) (by decide +kernel))⟩
theorem fl_Outlet_40 : FL "RelayDesk$Outlet" 40 5 3 := ⟨by decide, by decide, Or.inl (List.mem_of_getElem? (i := 248) (by decide +kernel))⟩
theorem fl_Outlet_44 : FL "RelayDesk$Outlet" 44 6 4 := ⟨by decide, by decide, Or.inr ⟨"RelayDesk", List.mem_of_getElem? (i := 310) (by decide +kernel)⟩⟩
theorem fl_Outlet_48 : FL "RelayDesk$Outlet" 48 5 9 := ⟨by decide, by decide, Or.inl (List.mem_of_getElem? (i := 254) (by decide +kernel))⟩
theorem fl_Outlet_55 : FL "RelayDesk$Outlet" 55 5 7 := ⟨by decide, by decide, Or.inl (List.mem_of_getElem? (i := 252) (by decide +kernel))⟩
theorem fl_Outlet_64 : FL "RelayDesk$Outlet" 64 5 5 := ⟨by decide, by decide, Or.inl (List.mem_of_getElem? (i := 250) (by decide +kernel))⟩
theorem fl_Outlet_67 : FL "RelayDesk$Outlet" 67 5 6 := ⟨by decide, by decide, Or.inl (List.mem_of_getElem? (i := 251) (by decide +kernel))⟩
theorem fl_Outlet_90 : FL "RelayDesk$Outlet" 90 3 1 := ⟨by decide, by decide, Or.inr ⟨"RelayDesk", List.mem_of_getElem? (i := 195) (by decide +kernel)⟩⟩
theorem dc_Message_init_0 : decode M_Message_init.2.1 0 = .ok (.aload_n 0, 1) := by decide +kernel
theorem dc_Message_init_1 : decode M_Message_init.2.1 1 = .ok (.invokespecial 3, 3) := by decide +kernel
theorem dc_Message_init_4 : decode M_Message_init.2.1 4 = .ok (.aload_n 0, 1) := by decide +kernel
theorem dc_Message_init_5 : decode M_Message_init.2.1 5 = .ok (.iconst 4, 1) := by decide +kernel
theorem dc_Message_init_6 : decode M_Message_init.2.1 6 = .ok (.newarray .int, 2) := by decide +kernel
theorem dc_Message_init_8 : decode M_Message_init.2.1 8 = .ok (.putfield 9, 3) := by decide +kernel
theorem dc_Message_init_11 : decode M_Message_init.2.1 11 = .ok (.aload_n 0, 1) := by decide +kernel
theorem dc_Message_init_12 : decode M_Message_init.2.1 12 = .ok (.new 15, 3) := by decide +kernel
theorem dc_Message_init_15 : decode M_Message_init.2.1 15 = .ok (.dup, 1) := by decide +kernel
theorem dc_Message_init_16 : decode M_Message_init.2.1 16 = .ok (.bipush 60, 2) := by decide +kernel
theorem dc_Message_init_18 : decode M_Message_init.2.1 18 = .ok (.invokespecial 17, 3) := by decide +kernel
theorem dc_Message_init_21 : decode M_Message_init.2.1 21 = .ok (.putfield 20, 3) := by decide +kernel
theorem dc_Message_init_24 : decode M_Message_init.2.1 24 = .ok (.aload_n 0, 1) := by decide +kernel
theorem dc_Message_init_25 : decode M_Message_init.2.1 25 = .ok (.bipush 8, 2) := by decide +kernel
theorem dc_Message_init_27 : decode M_Message_init.2.1 27 = .ok (.newarray .int, 2) := by decide +kernel
theorem dc_Message_init_29 : decode M_Message_init.2.1 29 = .ok (.putfield 24, 3) := by decide +kernel
theorem dc_Message_init_32 : decode M_Message_init.2.1 32 = .ok (.return_, 1) := by decide +kernel
set_option maxRecDepth 20000 in
theorem e_Message_init_0 {d : Nat} {σ : PH} {K : PO → PH → Prop} (x0 : Nat) (h : cc σ + 1 ≤ 601024 ∧ cs σ + 4 ≤ 7293034 ∧ (∀ σ1 : PH, σ1 = mk σ (2, 4) 4 → sh σ1 x0 = (1, 6) ∧ (∀ σ2 : PH, σ2 = pR σ1 385 x0 (some (nx σ)) → cc σ2 + 1 ≤ 601024 ∧ cs σ2 + 2 ≤ 7293034 ∧ (∀ σ3 : PH, σ3 = mk σ2 (1, 3) 2 → PW d M_Text_init 0 [.ref (nx σ2), .int 60] [] σ3 (kV (fun σ4 => sh σ4 x0 = (1, 6) ∧ (∀ σ5 : PH, σ5 = pR σ4 387 x0 (some (nx σ2)) → cc σ5 + 1 ≤ 601024 ∧ cs σ5 + 8 ≤ 7293034 ∧ (∀ σ6 : PH, σ6 = mk σ5 (2, 8) 8 → sh σ6 x0 = (1, 6) ∧ (∀ σ7 : PH, σ7 = pR σ6 388 x0 (some (nx σ5)) → K (.inl none) σ7)))) K))))) : PW (d + 1) M_Message_init 0 [.ref x0] [] σ K := by
  refine pw_aload_n dc_Message_init_0 rfl rfl ?_
  refine pw_objInit dc_Message_init_1 (List.mem_of_getElem? (i := 301) (by decide +kernel)) (List.mem_of_getElem? (i := 91) (by decide +kernel)) (List.mem_of_getElem? (i := 92) (by decide +kernel)) (Nat.le_of_ble_eq_true rfl) ?_
  refine pw_aload_n dc_Message_init_4 rfl rfl ?_
  refine pw_iconst (v := 4) dc_Message_init_5 (by decide) ?_
  refine PW.top (v' := .int (nI 4)) rfl ?_
  obtain ⟨hr1, hr2, h⟩ := h
  have h := h _ rfl
  refine pw_newa (k := 2) (N := 4) dc_Message_init_6 (by unfold nk; decide) rfl (List.mem_of_getElem? (i := 131) (by decide +kernel)) (by decide) hr1 hr2 ?_
  obtain ⟨hs1, h⟩ := h
  have h := h _ rfl
  refine pw_putR (c := 6) (k := 1) (f := 385) (v := some (nx σ)) dc_Message_init_8 fl_Message_9 (Or.inr ⟨rfl, rfl, rfl, List.mem_of_getElem? (i := 306) (by decide +kernel)⟩) rfl rfl hs1 ?_
  refine pw_aload_n dc_Message_init_11 rfl rfl ?_
  obtain ⟨hr3, hr4, h⟩ := h
  have h := h _ rfl
  refine pw_new (c := 3) dc_Message_init_12 (by decide) (List.mem_of_getElem? (i := 302) (by decide +kernel)) rfl hr3 hr4 ?_
  refine pw_dup dc_Message_init_15 rfl ?_
  refine pw_bipush (v := 60) dc_Message_init_16 (by decide) ?_
  refine pw_callI (vs := [.int 60]) (st := [.ref _, .ref x0]) (b := _) dc_Message_init_18 cq_Text_init rfl rfl (List.mem_of_getElem? (i := 190) (by decide +kernel)) (List.mem_of_getElem? (i := 189) (by decide +kernel)) (Or.inl (List.mem_of_getElem? (i := 303) (by decide +kernel))) rfl rfl (by decide) (cat_cons rfl (cat_nil)) (Nat.le_of_ble_eq_true rfl) (PW.mono (kV_kN (fun σ4 h => ?_)) h)
  obtain ⟨hs2, h⟩ := h
  have h := h _ rfl
  refine pw_putR (c := 6) (k := 3) (f := 387) (v := some _) dc_Message_init_21 fl_Message_20 (Or.inr ⟨rfl, rfl, rfl, List.mem_of_getElem? (i := 308) (by decide +kernel)⟩) rfl rfl hs2 ?_
  refine pw_aload_n dc_Message_init_24 rfl rfl ?_
  refine pw_bipush (v := 8) dc_Message_init_25 (by decide) ?_
  refine PW.top (v' := .int (nI 8)) rfl ?_
  obtain ⟨hr5, hr6, h⟩ := h
  have h := h _ rfl
  refine pw_newa (k := 2) (N := 8) dc_Message_init_27 (by unfold nk; decide) rfl (List.mem_of_getElem? (i := 131) (by decide +kernel)) (by decide) hr5 hr6 ?_
  obtain ⟨hs3, h⟩ := h
  have h := h _ rfl
  refine pw_putR (c := 6) (k := 4) (f := 388) (v := some _) dc_Message_init_29 fl_Message_24 (Or.inr ⟨rfl, rfl, rfl, List.mem_of_getElem? (i := 309) (by decide +kernel)⟩) rfl rfl hs3 ?_
  exact pw_vret dc_Message_init_32 rfl h
theorem dc_Message_fill_0 : decode M_Message_fill.2.1 0 = .ok (.aload_n 0, 1) := by decide +kernel
theorem dc_Message_fill_1 : decode M_Message_fill.2.1 1 = .ok (.aload_n 1, 1) := by decide +kernel
theorem dc_Message_fill_2 : decode M_Message_fill.2.1 2 = .ok (.getfield 27, 3) := by decide +kernel
theorem dc_Message_fill_5 : decode M_Message_fill.2.1 5 = .ok (.putfield 33, 3) := by decide +kernel
theorem dc_Message_fill_8 : decode M_Message_fill.2.1 8 = .ok (.aload_n 0, 1) := by decide +kernel
theorem dc_Message_fill_9 : decode M_Message_fill.2.1 9 = .ok (.aload_n 1, 1) := by decide +kernel
theorem dc_Message_fill_10 : decode M_Message_fill.2.1 10 = .ok (.getfield 34, 3) := by decide +kernel
theorem dc_Message_fill_13 : decode M_Message_fill.2.1 13 = .ok (.iconst 4, 1) := by decide +kernel
theorem dc_Message_fill_14 : decode M_Message_fill.2.1 14 = .ok (.invokestatic 37, 3) := by decide +kernel
theorem dc_Message_fill_17 : decode M_Message_fill.2.1 17 = .ok (.putfield 43, 3) := by decide +kernel
theorem dc_Message_fill_20 : decode M_Message_fill.2.1 20 = .ok (.iconst 0, 1) := by decide +kernel
theorem dc_Message_fill_21 : decode M_Message_fill.2.1 21 = .ok (.istore_n 3, 1) := by decide +kernel
theorem dc_Message_fill_22 : decode M_Message_fill.2.1 22 = .ok (.iload_n 3, 1) := by decide +kernel
theorem dc_Message_fill_23 : decode M_Message_fill.2.1 23 = .ok (.aload_n 0, 1) := by decide +kernel
theorem dc_Message_fill_24 : decode M_Message_fill.2.1 24 = .ok (.getfield 43, 3) := by decide +kernel
theorem dc_Message_fill_27 : decode M_Message_fill.2.1 27 = .ok (.if_icmp .ge 21, 3) := by decide +kernel
theorem dc_Message_fill_30 : decode M_Message_fill.2.1 30 = .ok (.aload_n 0, 1) := by decide +kernel
theorem dc_Message_fill_31 : decode M_Message_fill.2.1 31 = .ok (.getfield 9, 3) := by decide +kernel
theorem dc_Message_fill_34 : decode M_Message_fill.2.1 34 = .ok (.iload_n 3, 1) := by decide +kernel
theorem dc_Message_fill_35 : decode M_Message_fill.2.1 35 = .ok (.aload_n 1, 1) := by decide +kernel
theorem dc_Message_fill_36 : decode M_Message_fill.2.1 36 = .ok (.getfield 44, 3) := by decide +kernel
theorem dc_Message_fill_39 : decode M_Message_fill.2.1 39 = .ok (.iload_n 3, 1) := by decide +kernel
theorem dc_Message_fill_40 : decode M_Message_fill.2.1 40 = .ok (.iaload, 1) := by decide +kernel
theorem dc_Message_fill_41 : decode M_Message_fill.2.1 41 = .ok (.iastore, 1) := by decide +kernel
theorem dc_Message_fill_42 : decode M_Message_fill.2.1 42 = .ok (.iinc 3 1, 3) := by decide +kernel
theorem dc_Message_fill_45 : decode M_Message_fill.2.1 45 = .ok (.goto (-23), 3) := by decide +kernel
theorem dc_Message_fill_48 : decode M_Message_fill.2.1 48 = .ok (.aload_n 0, 1) := by decide +kernel
theorem dc_Message_fill_49 : decode M_Message_fill.2.1 49 = .ok (.getfield 20, 3) := by decide +kernel
theorem dc_Message_fill_52 : decode M_Message_fill.2.1 52 = .ok (.aload_n 2, 1) := by decide +kernel
theorem dc_Message_fill_53 : decode M_Message_fill.2.1 53 = .ok (.aload_n 1, 1) := by decide +kernel
theorem dc_Message_fill_54 : decode M_Message_fill.2.1 54 = .ok (.invokevirtual 45, 3) := by decide +kernel
theorem dc_Message_fill_57 : decode M_Message_fill.2.1 57 = .ok (.invokevirtual 49, 3) := by decide +kernel
theorem dc_Message_fill_60 : decode M_Message_fill.2.1 60 = .ok (.return_, 1) := by decide +kernel
set_option maxRecDepth 20000 in
theorem e_Message_fill_0 {d : Nat} {σ : PH} {K : PO → PH → Prop} (x0 : Nat) (x1 : Nat) (x2 : Nat) (h : sh σ x1 = (1, 10) ∧ sh σ x0 = (1, 6) ∧ (∀ σ1 : PH, σ1 = pI σ 384 x0 (gI σ 641 x1) → sh σ1 x1 = (1, 10) ∧ sh σ1 x0 = (1, 6) ∧ (∀ σ2 : PH, σ2 = pI σ1 386 x0 (if 4 < (gI σ1 643 x1) then 4 else gI σ1 643 x1) → PW (d + 1) M_Message_fill 22 [.ref x0, .ref x1, .ref x2, .int 0] [] σ2 K))) : PW (d + 1) M_Message_fill 0 [.ref x0, .ref x1, .ref x2, uu] [] σ K := by
  refine pw_aload_n dc_Message_fill_0 rfl rfl ?_
  refine pw_aload_n dc_Message_fill_1 rfl rfl ?_
  obtain ⟨hs1, h⟩ := h
  refine pw_getI (c := 10) (k := 1) (f := 641) dc_Message_fill_2 fl_Message_27 rfl rfl hs1 ?_
  obtain ⟨hs2, h⟩ := h
  have h := h _ rfl
  refine pw_putI (c := 6) (k := 0) (f := 384) dc_Message_fill_5 fl_Message_33 (Or.inl rfl) rfl rfl hs2 ?_
  refine pw_aload_n dc_Message_fill_8 rfl rfl ?_
  refine pw_aload_n dc_Message_fill_9 rfl rfl ?_
  obtain ⟨hs3, h⟩ := h
  refine pw_getI (c := 10) (k := 3) (f := 643) dc_Message_fill_10 fl_Message_34 rfl rfl hs3 ?_
  refine pw_iconst (v := 4) dc_Message_fill_13 (by decide) ?_
  refine pw_mmin dc_Message_fill_14 (List.mem_of_getElem? (i := 662) (by decide +kernel)) (Nat.le_of_ble_eq_true rfl) ?_
  obtain ⟨hs4, h⟩ := h
  have h := h _ rfl
  refine pw_putI (c := 6) (k := 2) (f := 386) dc_Message_fill_17 fl_Message_43 (Or.inl rfl) rfl rfl hs4 ?_
  refine pw_iconst (v := 0) dc_Message_fill_20 (by decide) ?_
  refine pw_istore_n dc_Message_fill_21 (by decide) ?_
  exact h
set_option maxRecDepth 20000 in
theorem e_Message_fill_22 {d : Nat} {σ : PH} {K : PO → PH → Prop} (x0 : Nat) (x1 : Nat) (x2 : Nat) (x3 : Int32) (h : sh σ x0 = (1, 6) ∧ (if (gI σ 386 x0) ≤ x3 then (∃ b1 : Nat, gR σ 387 x0 = some b1 ∧ sh σ x1 = (1, 10) ∧ PW d M_Header_bodyStart 0 [.ref x1] [] σ (kI (fun r1 σ1 => sh σ1 b1 = (1, 3) ∧ PW d M_Text_addFrom 0 [.ref b1, .ref x2, .int r1, uu] [] σ1 (kV (fun σ2 => K (.inl none) σ2) K)) K)) else (∃ b2 : Nat, gR σ 385 x0 = some b2 ∧ sh σ x1 = (1, 10) ∧ (∃ b3 : Nat, gR σ 642 x1 = some b3 ∧ (∃ n1 : Nat, sh σ b3 = (2, n1) ∧ vp_in x3 n1 ∧ (∃ n2 : Nat, sh σ b2 = (2, n2) ∧ vp_in x3 n2 ∧ (∀ σ3 : PH, σ3 = uI σ b2 (ix x3) (eI σ b3 (ix x3)) → PW (d + 1) M_Message_fill 22 [.ref x0, .ref x1, .ref x2, .int (x3 + 1)] [] σ3 K))))))) : PW (d + 1) M_Message_fill 22 [.ref x0, .ref x1, .ref x2, .int x3] [] σ K := by
  refine pw_iload_n dc_Message_fill_22 rfl ?_
  refine pw_aload_n dc_Message_fill_23 rfl rfl ?_
  obtain ⟨hs1, h⟩ := h
  refine pw_getI (c := 6) (k := 2) (f := 386) dc_Message_fill_24 fl_Message_43 rfl rfl hs1 ?_
  refine pw_icmp_ge (tgt := 48) dc_Message_fill_27 (by decide) (fun hc => ?_) (fun hc => ?_)
  · have h := ite_t h hc
    refine pw_aload_n dc_Message_fill_48 rfl rfl ?_
    refine pw_getR (c := 6) (k := 3) (f := 387) dc_Message_fill_49 fl_Message_20 rfl rfl hs1 ?_
    obtain ⟨b1, hb1, h⟩ := h
    refine PW.top (v' := .ref b1) (congrArg va_rf hb1) ?_
    refine pw_aload_n dc_Message_fill_52 rfl rfl ?_
    refine pw_aload_n dc_Message_fill_53 rfl rfl ?_
    obtain ⟨hs2, h⟩ := h
    refine pw_callV (vs := []) (st := [.ref x2, .ref b1]) (b := x1) (cn := 10) dc_Message_fill_54 cq_Header_bodyStart (List.mem_of_getElem? (i := 664) (by decide +kernel)) (List.mem_of_getElem? (i := 665) (by decide +kernel)) (List.mem_of_getElem? (i := 663) (by decide +kernel)) rfl hs2 rfl rfl (by decide) (cat_nil) (Nat.le_of_ble_eq_true rfl) (PW.mono (kI_kN (fun r1 σ1 h => ?_)) h)
    obtain ⟨hs3, h⟩ := h
    refine pw_callV (vs := [.ref x2, .int r1]) (st := []) (b := b1) (cn := 3) dc_Message_fill_57 cq_Text_addFrom (List.mem_of_getElem? (i := 668) (by decide +kernel)) (List.mem_of_getElem? (i := 669) (by decide +kernel)) (List.mem_of_getElem? (i := 667) (by decide +kernel)) rfl hs3 rfl rfl (by decide) (cat_cons rfl (cat_cons rfl (cat_nil))) (Nat.le_of_ble_eq_true rfl) (PW.mono (kV_kN (fun σ2 h => ?_)) h)
    exact pw_vret dc_Message_fill_60 rfl h
  · have h := ite_f h hc
    refine pw_aload_n dc_Message_fill_30 rfl rfl ?_
    refine pw_getR (c := 6) (k := 1) (f := 385) dc_Message_fill_31 fl_Message_9 rfl rfl hs1 ?_
    obtain ⟨b2, hb2, h⟩ := h
    refine PW.top (v' := .ref b2) (congrArg va_rf hb2) ?_
    refine pw_iload_n dc_Message_fill_34 rfl ?_
    refine pw_aload_n dc_Message_fill_35 rfl rfl ?_
    obtain ⟨hs4, h⟩ := h
    refine pw_getR (c := 10) (k := 2) (f := 642) dc_Message_fill_36 fl_Message_44 rfl rfl hs4 ?_
    obtain ⟨b3, hb3, h⟩ := h
    refine PW.top (v' := .ref b3) (congrArg va_rf hb3) ?_
    refine pw_iload_n dc_Message_fill_39 rfl ?_
    obtain ⟨n1, hs5, h⟩ := h
    obtain ⟨hi1, h⟩ := h
    refine pw_iald dc_Message_fill_40 hs5 hi1 ?_
    obtain ⟨n2, hs6, h⟩ := h
    obtain ⟨hi2, h⟩ := h
    have h := h _ rfl
    refine pw_iast dc_Message_fill_41 hs6 hi2 ?_
    refine pw_iincv (v := 1) dc_Message_fill_42 (by decide) rfl (by decide) ?_
    refine pw_goto (tgt := 22) dc_Message_fill_45 (by decide) ?_
    exact h
theorem dc_Message_waitsOn_0 : decode M_Message_waitsOn.2.1 0 = .ok (.aload_n 0, 1) := by decide +kernel
theorem dc_Message_waitsOn_1 : decode M_Message_waitsOn.2.1 1 = .ok (.getfield 24, 3) := by decide +kernel
theorem dc_Message_waitsOn_4 : decode M_Message_waitsOn.2.1 4 = .ok (.iload_n 1, 1) := by decide +kernel
theorem dc_Message_waitsOn_5 : decode M_Message_waitsOn.2.1 5 = .ok (.iaload, 1) := by decide +kernel
theorem dc_Message_waitsOn_6 : decode M_Message_waitsOn.2.1 6 = .ok (.iconst (-1), 1) := by decide +kernel
theorem dc_Message_waitsOn_7 : decode M_Message_waitsOn.2.1 7 = .ok (.if_icmp .ne 7, 3) := by decide +kernel
theorem dc_Message_waitsOn_10 : decode M_Message_waitsOn.2.1 10 = .ok (.iconst 1, 1) := by decide +kernel
theorem dc_Message_waitsOn_11 : decode M_Message_waitsOn.2.1 11 = .ok (.goto 4, 3) := by decide +kernel
theorem dc_Message_waitsOn_14 : decode M_Message_waitsOn.2.1 14 = .ok (.iconst 0, 1) := by decide +kernel
theorem dc_Message_waitsOn_15 : decode M_Message_waitsOn.2.1 15 = .ok (.ireturn, 1) := by decide +kernel
set_option maxRecDepth 20000 in
theorem e_Message_waitsOn_0 {d : Nat} {σ : PH} {K : PO → PH → Prop} (x0 : Nat) (x1 : Int32) (h : sh σ x0 = (1, 6) ∧ (∃ b1 : Nat, gR σ 388 x0 = some b1 ∧ (∃ n1 : Nat, sh σ b1 = (2, n1) ∧ vp_in x1 n1 ∧ (if (eI σ b1 (ix x1)) = (-1) then K (.inl (some (.int 1))) σ else K (.inl (some (.int 0))) σ)))) : PW d M_Message_waitsOn 0 [.ref x0, .int x1] [] σ K := by
  refine pw_aload_n dc_Message_waitsOn_0 rfl rfl ?_
  obtain ⟨hs1, h⟩ := h
  refine pw_getR (c := 6) (k := 4) (f := 388) dc_Message_waitsOn_1 fl_Message_24 rfl rfl hs1 ?_
  obtain ⟨b1, hb1, h⟩ := h
  refine PW.top (v' := .ref b1) (congrArg va_rf hb1) ?_
  refine pw_iload_n dc_Message_waitsOn_4 rfl ?_
  obtain ⟨n1, hs2, h⟩ := h
  obtain ⟨hi1, h⟩ := h
  refine pw_iald dc_Message_waitsOn_5 hs2 hi1 ?_
  refine pw_iconst (v := (-1)) dc_Message_waitsOn_6 (by decide) ?_
  refine pw_icmp_ne (tgt := 14) dc_Message_waitsOn_7 (by decide) (fun hc => ?_) (fun hc => ?_)
  · have h := ite_f h hc
    refine pw_iconst (v := 0) dc_Message_waitsOn_14 (by decide) ?_
    exact pw_iret dc_Message_waitsOn_15 rfl (bo_nar (Or.inl rfl)) h
  · have h := ite_t h hc
    refine pw_iconst (v := 1) dc_Message_waitsOn_10 (by decide) ?_
    refine pw_goto (tgt := 15) dc_Message_waitsOn_11 (by decide) ?_
    exact pw_iret dc_Message_waitsOn_15 rfl (bo_nar (Or.inr rfl)) h
theorem dc_Message_writeOn_0 : decode M_Message_writeOn.2.1 0 = .ok (.aload_n 1, 1) := by decide +kernel
theorem dc_Message_writeOn_1 : decode M_Message_writeOn.2.1 1 = .ok (.invokevirtual 53, 3) := by decide +kernel
theorem dc_Message_writeOn_4 : decode M_Message_writeOn.2.1 4 = .ok (.aload_n 1, 1) := by decide +kernel
theorem dc_Message_writeOn_5 : decode M_Message_writeOn.2.1 5 = .ok (.iload_n 2, 1) := by decide +kernel
theorem dc_Message_writeOn_6 : decode M_Message_writeOn.2.1 6 = .ok (.invokevirtual 56, 3) := by decide +kernel
theorem dc_Message_writeOn_9 : decode M_Message_writeOn.2.1 9 = .ok (.aload_n 1, 1) := by decide +kernel
theorem dc_Message_writeOn_10 : decode M_Message_writeOn.2.1 10 = .ok (.bipush 32, 2) := by decide +kernel
theorem dc_Message_writeOn_12 : decode M_Message_writeOn.2.1 12 = .ok (.invokevirtual 59, 3) := by decide +kernel
theorem dc_Message_writeOn_15 : decode M_Message_writeOn.2.1 15 = .ok (.iload_n 3, 1) := by decide +kernel
theorem dc_Message_writeOn_16 : decode M_Message_writeOn.2.1 16 = .ok (.ifCond .eq 15, 3) := by decide +kernel
theorem dc_Message_writeOn_19 : decode M_Message_writeOn.2.1 19 = .ok (.aload_n 1, 1) := by decide +kernel
theorem dc_Message_writeOn_20 : decode M_Message_writeOn.2.1 20 = .ok (.bipush 82, 2) := by decide +kernel
theorem dc_Message_writeOn_22 : decode M_Message_writeOn.2.1 22 = .ok (.invokevirtual 59, 3) := by decide +kernel
theorem dc_Message_writeOn_25 : decode M_Message_writeOn.2.1 25 = .ok (.aload_n 1, 1) := by decide +kernel
theorem dc_Message_writeOn_26 : decode M_Message_writeOn.2.1 26 = .ok (.bipush 32, 2) := by decide +kernel
theorem dc_Message_writeOn_28 : decode M_Message_writeOn.2.1 28 = .ok (.invokevirtual 59, 3) := by decide +kernel
theorem dc_Message_writeOn_31 : decode M_Message_writeOn.2.1 31 = .ok (.aload_n 1, 1) := by decide +kernel
theorem dc_Message_writeOn_32 : decode M_Message_writeOn.2.1 32 = .ok (.bipush 48, 2) := by decide +kernel
theorem dc_Message_writeOn_34 : decode M_Message_writeOn.2.1 34 = .ok (.aload_n 0, 1) := by decide +kernel
theorem dc_Message_writeOn_35 : decode M_Message_writeOn.2.1 35 = .ok (.getfield 33, 3) := by decide +kernel
theorem dc_Message_writeOn_38 : decode M_Message_writeOn.2.1 38 = .ok (.iadd, 1) := by decide +kernel
theorem dc_Message_writeOn_39 : decode M_Message_writeOn.2.1 39 = .ok (.i2c, 1) := by decide +kernel
theorem dc_Message_writeOn_40 : decode M_Message_writeOn.2.1 40 = .ok (.invokevirtual 59, 3) := by decide +kernel
theorem dc_Message_writeOn_43 : decode M_Message_writeOn.2.1 43 = .ok (.iconst 0, 1) := by decide +kernel
theorem dc_Message_writeOn_44 : decode M_Message_writeOn.2.1 44 = .ok (.istore 4, 2) := by decide +kernel
theorem dc_Message_writeOn_46 : decode M_Message_writeOn.2.1 46 = .ok (.iload 4, 2) := by decide +kernel
theorem dc_Message_writeOn_48 : decode M_Message_writeOn.2.1 48 = .ok (.aload_n 0, 1) := by decide +kernel
theorem dc_Message_writeOn_49 : decode M_Message_writeOn.2.1 49 = .ok (.getfield 43, 3) := by decide +kernel
theorem dc_Message_writeOn_52 : decode M_Message_writeOn.2.1 52 = .ok (.if_icmp .ge 26, 3) := by decide +kernel
theorem dc_Message_writeOn_55 : decode M_Message_writeOn.2.1 55 = .ok (.aload_n 1, 1) := by decide +kernel
theorem dc_Message_writeOn_56 : decode M_Message_writeOn.2.1 56 = .ok (.bipush 32, 2) := by decide +kernel
theorem dc_Message_writeOn_58 : decode M_Message_writeOn.2.1 58 = .ok (.invokevirtual 59, 3) := by decide +kernel
theorem dc_Message_writeOn_61 : decode M_Message_writeOn.2.1 61 = .ok (.aload_n 1, 1) := by decide +kernel
theorem dc_Message_writeOn_62 : decode M_Message_writeOn.2.1 62 = .ok (.aload_n 0, 1) := by decide +kernel
theorem dc_Message_writeOn_63 : decode M_Message_writeOn.2.1 63 = .ok (.getfield 9, 3) := by decide +kernel
theorem dc_Message_writeOn_66 : decode M_Message_writeOn.2.1 66 = .ok (.iload 4, 2) := by decide +kernel
theorem dc_Message_writeOn_68 : decode M_Message_writeOn.2.1 68 = .ok (.iaload, 1) := by decide +kernel
theorem dc_Message_writeOn_69 : decode M_Message_writeOn.2.1 69 = .ok (.invokevirtual 63, 3) := by decide +kernel
theorem dc_Message_writeOn_72 : decode M_Message_writeOn.2.1 72 = .ok (.iinc 4 1, 3) := by decide +kernel
theorem dc_Message_writeOn_75 : decode M_Message_writeOn.2.1 75 = .ok (.goto (-29), 3) := by decide +kernel
theorem dc_Message_writeOn_78 : decode M_Message_writeOn.2.1 78 = .ok (.aload_n 1, 1) := by decide +kernel
theorem dc_Message_writeOn_79 : decode M_Message_writeOn.2.1 79 = .ok (.bipush 10, 2) := by decide +kernel
theorem dc_Message_writeOn_81 : decode M_Message_writeOn.2.1 81 = .ok (.invokevirtual 59, 3) := by decide +kernel
theorem dc_Message_writeOn_84 : decode M_Message_writeOn.2.1 84 = .ok (.aload_n 1, 1) := by decide +kernel
theorem dc_Message_writeOn_85 : decode M_Message_writeOn.2.1 85 = .ok (.aload_n 0, 1) := by decide +kernel
theorem dc_Message_writeOn_86 : decode M_Message_writeOn.2.1 86 = .ok (.getfield 20, 3) := by decide +kernel
theorem dc_Message_writeOn_89 : decode M_Message_writeOn.2.1 89 = .ok (.iconst 0, 1) := by decide +kernel
theorem dc_Message_writeOn_90 : decode M_Message_writeOn.2.1 90 = .ok (.invokevirtual 49, 3) := by decide +kernel
theorem dc_Message_writeOn_93 : decode M_Message_writeOn.2.1 93 = .ok (.aload_n 0, 1) := by decide +kernel
theorem dc_Message_writeOn_94 : decode M_Message_writeOn.2.1 94 = .ok (.getfield 20, 3) := by decide +kernel
theorem dc_Message_writeOn_97 : decode M_Message_writeOn.2.1 97 = .ok (.getfield 66, 3) := by decide +kernel
theorem dc_Message_writeOn_100 : decode M_Message_writeOn.2.1 100 = .ok (.ifCond .le 30, 3) := by decide +kernel
theorem dc_Message_writeOn_103 : decode M_Message_writeOn.2.1 103 = .ok (.aload_n 0, 1) := by decide +kernel
theorem dc_Message_writeOn_104 : decode M_Message_writeOn.2.1 104 = .ok (.getfield 20, 3) := by decide +kernel
theorem dc_Message_writeOn_107 : decode M_Message_writeOn.2.1 107 = .ok (.aload_n 0, 1) := by decide +kernel
theorem dc_Message_writeOn_108 : decode M_Message_writeOn.2.1 108 = .ok (.getfield 20, 3) := by decide +kernel
theorem dc_Message_writeOn_111 : decode M_Message_writeOn.2.1 111 = .ok (.getfield 66, 3) := by decide +kernel
theorem dc_Message_writeOn_114 : decode M_Message_writeOn.2.1 114 = .ok (.iconst 1, 1) := by decide +kernel
theorem dc_Message_writeOn_115 : decode M_Message_writeOn.2.1 115 = .ok (.isub, 1) := by decide +kernel
theorem dc_Message_writeOn_116 : decode M_Message_writeOn.2.1 116 = .ok (.invokevirtual 69, 3) := by decide +kernel
theorem dc_Message_writeOn_119 : decode M_Message_writeOn.2.1 119 = .ok (.bipush 10, 2) := by decide +kernel
theorem dc_Message_writeOn_121 : decode M_Message_writeOn.2.1 121 = .ok (.if_icmp .eq 9, 3) := by decide +kernel
theorem dc_Message_writeOn_124 : decode M_Message_writeOn.2.1 124 = .ok (.aload_n 1, 1) := by decide +kernel
theorem dc_Message_writeOn_125 : decode M_Message_writeOn.2.1 125 = .ok (.bipush 10, 2) := by decide +kernel
theorem dc_Message_writeOn_127 : decode M_Message_writeOn.2.1 127 = .ok (.invokevirtual 59, 3) := by decide +kernel
theorem dc_Message_writeOn_130 : decode M_Message_writeOn.2.1 130 = .ok (.iconst 0, 1) := by decide +kernel
theorem dc_Message_writeOn_131 : decode M_Message_writeOn.2.1 131 = .ok (.istore 4, 2) := by decide +kernel
theorem dc_Message_writeOn_133 : decode M_Message_writeOn.2.1 133 = .ok (.iload 4, 2) := by decide +kernel
theorem dc_Message_writeOn_135 : decode M_Message_writeOn.2.1 135 = .ok (.iconst 4, 1) := by decide +kernel
theorem dc_Message_writeOn_136 : decode M_Message_writeOn.2.1 136 = .ok (.if_icmp .ge 15, 3) := by decide +kernel
theorem dc_Message_writeOn_139 : decode M_Message_writeOn.2.1 139 = .ok (.aload_n 1, 1) := by decide +kernel
theorem dc_Message_writeOn_140 : decode M_Message_writeOn.2.1 140 = .ok (.bipush 78, 2) := by decide +kernel
theorem dc_Message_writeOn_142 : decode M_Message_writeOn.2.1 142 = .ok (.invokevirtual 59, 3) := by decide +kernel
theorem dc_Message_writeOn_145 : decode M_Message_writeOn.2.1 145 = .ok (.iinc 4 1, 3) := by decide +kernel
theorem dc_Message_writeOn_148 : decode M_Message_writeOn.2.1 148 = .ok (.goto (-15), 3) := by decide +kernel
theorem dc_Message_writeOn_151 : decode M_Message_writeOn.2.1 151 = .ok (.aload_n 1, 1) := by decide +kernel
theorem dc_Message_writeOn_152 : decode M_Message_writeOn.2.1 152 = .ok (.bipush 10, 2) := by decide +kernel
theorem dc_Message_writeOn_154 : decode M_Message_writeOn.2.1 154 = .ok (.invokevirtual 59, 3) := by decide +kernel
theorem dc_Message_writeOn_157 : decode M_Message_writeOn.2.1 157 = .ok (.return_, 1) := by decide +kernel
set_option maxRecDepth 20000 in
theorem e_Message_writeOn_0 {d : Nat} {σ : PH} {K : PO → PH → Prop} (x0 : Nat) (x1 : Nat) (x2 : Int32) (x3 : Int32) (h : sh σ x1 = (1, 3) ∧ PW d M_Text_clear 0 [.ref x1] [] σ (kV (fun σ1 => sh σ1 x1 = (1, 3) ∧ PW d M_Text_addNumber 0 [.ref x1, .int x2] [] σ1 (kV (fun σ2 => sh σ2 x1 = (1, 3) ∧ PW d M_Text_add 0 [.ref x1, .int 32] [] σ2 (kV (fun σ3 => (if x3 = 0 then PW (d + 1) M_Message_writeOn 31 [.ref x0, .ref x1, uu, uu, uu] [] σ3 K else sh σ3 x1 = (1, 3) ∧ PW d M_Text_add 0 [.ref x1, .int 82] [] σ3 (kV (fun σ4 => sh σ4 x1 = (1, 3) ∧ PW d M_Text_add 0 [.ref x1, .int 32] [] σ4 (kV (fun σ5 => PW (d + 1) M_Message_writeOn 31 [.ref x0, .ref x1, uu, uu, uu] [] σ5 K) K)) K))) K)) K)) K)) : PW (d + 1) M_Message_writeOn 0 [.ref x0, .ref x1, .int x2, .int x3, uu] [] σ K := by
  refine pw_aload_n dc_Message_writeOn_0 rfl rfl ?_
  obtain ⟨hs1, h⟩ := h
  refine pw_callV (vs := []) (st := []) (b := x1) (cn := 3) dc_Message_writeOn_1 cq_Text_clear (List.mem_of_getElem? (i := 374) (by decide +kernel)) (List.mem_of_getElem? (i := 375) (by decide +kernel)) (List.mem_of_getElem? (i := 793) (by decide +kernel)) rfl hs1 rfl rfl (by decide) (cat_nil) (Nat.le_of_ble_eq_true rfl) (PW.mono (kV_kN (fun σ1 h => ?_)) h)
  refine pw_aload_n dc_Message_writeOn_4 rfl rfl ?_
  refine pw_iload_n dc_Message_writeOn_5 rfl ?_
  obtain ⟨hs2, h⟩ := h
  refine pw_callV (vs := [.int x2]) (st := []) (b := x1) (cn := 3) dc_Message_writeOn_6 cq_Text_addNumber (List.mem_of_getElem? (i := 795) (by decide +kernel)) (List.mem_of_getElem? (i := 796) (by decide +kernel)) (List.mem_of_getElem? (i := 794) (by decide +kernel)) rfl hs2 rfl rfl (by decide) (cat_cons rfl (cat_nil)) (Nat.le_of_ble_eq_true rfl) (PW.mono (kV_kN (fun σ2 h => ?_)) h)
  refine pw_aload_n dc_Message_writeOn_9 rfl rfl ?_
  refine pw_bipush (v := 32) dc_Message_writeOn_10 (by decide) ?_
  obtain ⟨hs3, h⟩ := h
  refine pw_callV (vs := [.int 32]) (st := []) (b := x1) (cn := 3) dc_Message_writeOn_12 cq_Text_add (List.mem_of_getElem? (i := 527) (by decide +kernel)) (List.mem_of_getElem? (i := 528) (by decide +kernel)) (List.mem_of_getElem? (i := 798) (by decide +kernel)) rfl hs3 rfl rfl (by decide) (cat_cons rfl (cat_nil)) (Nat.le_of_ble_eq_true rfl) (PW.mono (kV_kN (fun σ3 h => ?_)) h)
  refine pw_iload_n dc_Message_writeOn_15 rfl ?_
  refine pw_if_eq (tgt := 31) dc_Message_writeOn_16 (by decide) (fun hc => ?_) (fun hc => ?_)
  · have h := ite_t h hc
    refine PW.drop (ls' := [.ref x0, .ref x1, uu, uu, uu]) ⟨Or.inl rfl, Or.inl rfl, Or.inr rfl, Or.inr rfl, Or.inl rfl, trivial⟩ ?_
    exact h
  · have h := ite_f h hc
    refine pw_aload_n dc_Message_writeOn_19 rfl rfl ?_
    refine pw_bipush (v := 82) dc_Message_writeOn_20 (by decide) ?_
    obtain ⟨hs4, h⟩ := h
    refine pw_callV (vs := [.int 82]) (st := []) (b := x1) (cn := 3) dc_Message_writeOn_22 cq_Text_add (List.mem_of_getElem? (i := 527) (by decide +kernel)) (List.mem_of_getElem? (i := 528) (by decide +kernel)) (List.mem_of_getElem? (i := 798) (by decide +kernel)) rfl hs4 rfl rfl (by decide) (cat_cons rfl (cat_nil)) (Nat.le_of_ble_eq_true rfl) (PW.mono (kV_kN (fun σ4 h => ?_)) h)
    refine pw_aload_n dc_Message_writeOn_25 rfl rfl ?_
    refine pw_bipush (v := 32) dc_Message_writeOn_26 (by decide) ?_
    obtain ⟨hs5, h⟩ := h
    refine pw_callV (vs := [.int 32]) (st := []) (b := x1) (cn := 3) dc_Message_writeOn_28 cq_Text_add (List.mem_of_getElem? (i := 527) (by decide +kernel)) (List.mem_of_getElem? (i := 528) (by decide +kernel)) (List.mem_of_getElem? (i := 798) (by decide +kernel)) rfl hs5 rfl rfl (by decide) (cat_cons rfl (cat_nil)) (Nat.le_of_ble_eq_true rfl) (PW.mono (kV_kN (fun σ5 h => ?_)) h)
    refine PW.drop (ls' := [.ref x0, .ref x1, uu, uu, uu]) ⟨Or.inl rfl, Or.inl rfl, Or.inr rfl, Or.inr rfl, Or.inl rfl, trivial⟩ ?_
    exact h
set_option maxRecDepth 20000 in
theorem e_Message_writeOn_31 {d : Nat} {σ : PH} {K : PO → PH → Prop} (x0 : Nat) (x1 : Nat) (h : sh σ x0 = (1, 6) ∧ sh σ x1 = (1, 3) ∧ PW d M_Text_add 0 [.ref x1, .int (((48 + (gI σ 384 x0)).toUInt32 % 65536).toInt32)] [] σ (kV (fun σ1 => PW (d + 1) M_Message_writeOn 46 [.ref x0, .ref x1, uu, uu, .int 0] [] σ1 K) K)) : PW (d + 1) M_Message_writeOn 31 [.ref x0, .ref x1, uu, uu, uu] [] σ K := by
  refine pw_aload_n dc_Message_writeOn_31 rfl rfl ?_
  refine pw_bipush (v := 48) dc_Message_writeOn_32 (by decide) ?_
  refine pw_aload_n dc_Message_writeOn_34 rfl rfl ?_
  obtain ⟨hs1, h⟩ := h
  refine pw_getI (c := 6) (k := 0) (f := 384) dc_Message_writeOn_35 fl_Message_33 rfl rfl hs1 ?_
  refine pw_iadd dc_Message_writeOn_38 ?_
  refine pw_i2c dc_Message_writeOn_39 ?_
  obtain ⟨hs2, h⟩ := h
  refine pw_callV (vs := [.int (((48 + (gI σ 384 x0)).toUInt32 % 65536).toInt32)]) (st := []) (b := x1) (cn := 3) dc_Message_writeOn_40 cq_Text_add (List.mem_of_getElem? (i := 527) (by decide +kernel)) (List.mem_of_getElem? (i := 528) (by decide +kernel)) (List.mem_of_getElem? (i := 798) (by decide +kernel)) rfl hs2 rfl rfl (by decide) (cat_cons rfl (cat_nil)) (Nat.le_of_ble_eq_true rfl) (PW.mono (kV_kN (fun σ1 h => ?_)) h)
  refine pw_iconst (v := 0) dc_Message_writeOn_43 (by decide) ?_
  refine pw_istore dc_Message_writeOn_44 (by decide) ?_
  exact h
set_option maxRecDepth 20000 in
theorem e_Message_writeOn_46 {d : Nat} {σ : PH} {K : PO → PH → Prop} (x0 : Nat) (x1 : Nat) (x4 : Int32) (h : sh σ x0 = (1, 6) ∧ (if (gI σ 386 x0) ≤ x4 then sh σ x1 = (1, 3) ∧ PW d M_Text_add 0 [.ref x1, .int 10] [] σ (kV (fun σ1 => sh σ1 x0 = (1, 6) ∧ (∃ b1 : Nat, gR σ1 387 x0 = some b1 ∧ sh σ1 x1 = (1, 3) ∧ PW d M_Text_addFrom 0 [.ref x1, .ref b1, .int 0, uu] [] σ1 (kV (fun σ2 => sh σ2 x0 = (1, 6) ∧ (∃ b2 : Nat, gR σ2 387 x0 = some b2 ∧ sh σ2 b2 = (1, 3) ∧ (if (gI σ2 193 b2) ≤ 0 then PW (d + 1) M_Message_writeOn 130 [uu, .ref x1, uu, uu, uu] [] σ2 K else PW d M_Text_at 0 [.ref b2, .int ((gI σ2 193 b2) - 1)] [] σ2 (kI (fun r1 σ3 => (if r1 = 10 then PW (d + 1) M_Message_writeOn 130 [uu, .ref x1, uu, uu, uu] [] σ3 K else sh σ3 x1 = (1, 3) ∧ PW d M_Text_add 0 [.ref x1, .int 10] [] σ3 (kV (fun σ4 => PW (d + 1) M_Message_writeOn 130 [uu, .ref x1, uu, uu, uu] [] σ4 K) K))) K)))) K))) K) else sh σ x1 = (1, 3) ∧ PW d M_Text_add 0 [.ref x1, .int 32] [] σ (kV (fun σ5 => sh σ5 x0 = (1, 6) ∧ (∃ b3 : Nat, gR σ5 385 x0 = some b3 ∧ (∃ n1 : Nat, sh σ5 b3 = (2, n1) ∧ vp_in x4 n1 ∧ sh σ5 x1 = (1, 3) ∧ PW d M_Text_addIndicator 0 [.ref x1, .int (eI σ5 b3 (ix x4)), uu, uu] [] σ5 (kV (fun σ6 => PW (d + 1) M_Message_writeOn 46 [.ref x0, .ref x1, uu, uu, .int (x4 + 1)] [] σ6 K) K)))) K))) : PW (d + 1) M_Message_writeOn 46 [.ref x0, .ref x1, uu, uu, .int x4] [] σ K := by
  refine pw_iload dc_Message_writeOn_46 rfl ?_
  refine pw_aload_n dc_Message_writeOn_48 rfl rfl ?_
  obtain ⟨hs1, h⟩ := h
  refine pw_getI (c := 6) (k := 2) (f := 386) dc_Message_writeOn_49 fl_Message_43 rfl rfl hs1 ?_
  refine pw_icmp_ge (tgt := 78) dc_Message_writeOn_52 (by decide) (fun hc => ?_) (fun hc => ?_)
  · have h := ite_t h hc
    refine pw_aload_n dc_Message_writeOn_78 rfl rfl ?_
    refine pw_bipush (v := 10) dc_Message_writeOn_79 (by decide) ?_
    obtain ⟨hs2, h⟩ := h
    refine pw_callV (vs := [.int 10]) (st := []) (b := x1) (cn := 3) dc_Message_writeOn_81 cq_Text_add (List.mem_of_getElem? (i := 527) (by decide +kernel)) (List.mem_of_getElem? (i := 528) (by decide +kernel)) (List.mem_of_getElem? (i := 798) (by decide +kernel)) rfl hs2 rfl rfl (by decide) (cat_cons rfl (cat_nil)) (Nat.le_of_ble_eq_true rfl) (PW.mono (kV_kN (fun σ1 h => ?_)) h)
    refine pw_aload_n dc_Message_writeOn_84 rfl rfl ?_
    refine pw_aload_n dc_Message_writeOn_85 rfl rfl ?_
    obtain ⟨hs3, h⟩ := h
    refine pw_getR (c := 6) (k := 3) (f := 387) dc_Message_writeOn_86 fl_Message_20 rfl rfl hs3 ?_
    obtain ⟨b1, hb1, h⟩ := h
    refine PW.top (v' := .ref b1) (congrArg va_rf hb1) ?_
    refine pw_iconst (v := 0) dc_Message_writeOn_89 (by decide) ?_
    obtain ⟨hs4, h⟩ := h
    refine pw_callV (vs := [.ref b1, .int 0]) (st := []) (b := x1) (cn := 3) dc_Message_writeOn_90 cq_Text_addFrom (List.mem_of_getElem? (i := 668) (by decide +kernel)) (List.mem_of_getElem? (i := 669) (by decide +kernel)) (List.mem_of_getElem? (i := 667) (by decide +kernel)) rfl hs4 rfl rfl (by decide) (cat_cons rfl (cat_cons rfl (cat_nil))) (Nat.le_of_ble_eq_true rfl) (PW.mono (kV_kN (fun σ2 h => ?_)) h)
    refine pw_aload_n dc_Message_writeOn_93 rfl rfl ?_
    obtain ⟨hs5, h⟩ := h
    refine pw_getR (c := 6) (k := 3) (f := 387) dc_Message_writeOn_94 fl_Message_20 rfl rfl hs5 ?_
    obtain ⟨b2, hb2, h⟩ := h
    refine PW.top (v' := .ref b2) (congrArg va_rf hb2) ?_
    obtain ⟨hs6, h⟩ := h
    refine pw_getI (c := 3) (k := 1) (f := 193) dc_Message_writeOn_97 fl_Message_66 rfl rfl hs6 ?_
    refine pw_if_le (tgt := 130) dc_Message_writeOn_100 (by decide) (fun hc => ?_) (fun hc => ?_)
    · have h := ite_t h hc
      refine PW.drop (ls' := [uu, .ref x1, uu, uu, uu]) ⟨Or.inr rfl, Or.inl rfl, Or.inl rfl, Or.inl rfl, Or.inr rfl, trivial⟩ ?_
      exact h
    · have h := ite_f h hc
      refine pw_aload_n dc_Message_writeOn_103 rfl rfl ?_
      refine pw_getR (c := 6) (k := 3) (f := 387) dc_Message_writeOn_104 fl_Message_20 rfl rfl hs5 ?_
      refine PW.top (v' := .ref b2) (congrArg va_rf hb2) ?_
      refine pw_aload_n dc_Message_writeOn_107 rfl rfl ?_
      refine pw_getR (c := 6) (k := 3) (f := 387) dc_Message_writeOn_108 fl_Message_20 rfl rfl hs5 ?_
      refine PW.top (v' := .ref b2) (congrArg va_rf hb2) ?_
      refine pw_getI (c := 3) (k := 1) (f := 193) dc_Message_writeOn_111 fl_Message_66 rfl rfl hs6 ?_
      refine pw_iconst (v := 1) dc_Message_writeOn_114 (by decide) ?_
      refine pw_isub dc_Message_writeOn_115 ?_
      refine pw_callV (vs := [.int ((gI σ2 193 b2) - 1)]) (st := []) (b := b2) (cn := 3) dc_Message_writeOn_116 cq_Text_at (List.mem_of_getElem? (i := 563) (by decide +kernel)) (List.mem_of_getElem? (i := 564) (by decide +kernel)) (List.mem_of_getElem? (i := 806) (by decide +kernel)) rfl hs6 rfl rfl (by decide) (cat_cons rfl (cat_nil)) (Nat.le_of_ble_eq_true rfl) (PW.mono (kI_kN (fun r1 σ3 h => ?_)) h)
      refine pw_bipush (v := 10) dc_Message_writeOn_119 (by decide) ?_
      refine pw_icmp_eq (tgt := 130) dc_Message_writeOn_121 (by decide) (fun hc => ?_) (fun hc => ?_)
      · have h := ite_t h hc
        refine PW.drop (ls' := [uu, .ref x1, uu, uu, uu]) ⟨Or.inr rfl, Or.inl rfl, Or.inl rfl, Or.inl rfl, Or.inr rfl, trivial⟩ ?_
        exact h
      · have h := ite_f h hc
        refine pw_aload_n dc_Message_writeOn_124 rfl rfl ?_
        refine pw_bipush (v := 10) dc_Message_writeOn_125 (by decide) ?_
        obtain ⟨hs7, h⟩ := h
        refine pw_callV (vs := [.int 10]) (st := []) (b := x1) (cn := 3) dc_Message_writeOn_127 cq_Text_add (List.mem_of_getElem? (i := 527) (by decide +kernel)) (List.mem_of_getElem? (i := 528) (by decide +kernel)) (List.mem_of_getElem? (i := 798) (by decide +kernel)) rfl hs7 rfl rfl (by decide) (cat_cons rfl (cat_nil)) (Nat.le_of_ble_eq_true rfl) (PW.mono (kV_kN (fun σ4 h => ?_)) h)
        refine PW.drop (ls' := [uu, .ref x1, uu, uu, uu]) ⟨Or.inr rfl, Or.inl rfl, Or.inl rfl, Or.inl rfl, Or.inr rfl, trivial⟩ ?_
        exact h
  · have h := ite_f h hc
    refine pw_aload_n dc_Message_writeOn_55 rfl rfl ?_
    refine pw_bipush (v := 32) dc_Message_writeOn_56 (by decide) ?_
    obtain ⟨hs8, h⟩ := h
    refine pw_callV (vs := [.int 32]) (st := []) (b := x1) (cn := 3) dc_Message_writeOn_58 cq_Text_add (List.mem_of_getElem? (i := 527) (by decide +kernel)) (List.mem_of_getElem? (i := 528) (by decide +kernel)) (List.mem_of_getElem? (i := 798) (by decide +kernel)) rfl hs8 rfl rfl (by decide) (cat_cons rfl (cat_nil)) (Nat.le_of_ble_eq_true rfl) (PW.mono (kV_kN (fun σ5 h => ?_)) h)
    refine pw_aload_n dc_Message_writeOn_61 rfl rfl ?_
    refine pw_aload_n dc_Message_writeOn_62 rfl rfl ?_
    obtain ⟨hs9, h⟩ := h
    refine pw_getR (c := 6) (k := 1) (f := 385) dc_Message_writeOn_63 fl_Message_9 rfl rfl hs9 ?_
    obtain ⟨b3, hb3, h⟩ := h
    refine PW.top (v' := .ref b3) (congrArg va_rf hb3) ?_
    refine pw_iload dc_Message_writeOn_66 rfl ?_
    obtain ⟨n1, hs10, h⟩ := h
    obtain ⟨hi1, h⟩ := h
    refine pw_iald dc_Message_writeOn_68 hs10 hi1 ?_
    obtain ⟨hs11, h⟩ := h
    refine pw_callV (vs := [.int (eI σ5 b3 (ix x4))]) (st := []) (b := x1) (cn := 3) dc_Message_writeOn_69 cq_Text_addIndicator (List.mem_of_getElem? (i := 800) (by decide +kernel)) (List.mem_of_getElem? (i := 801) (by decide +kernel)) (List.mem_of_getElem? (i := 799) (by decide +kernel)) rfl hs11 rfl rfl (by decide) (cat_cons rfl (cat_nil)) (Nat.le_of_ble_eq_true rfl) (PW.mono (kV_kN (fun σ6 h => ?_)) h)
    refine pw_iincv (v := 1) dc_Message_writeOn_72 (by decide) rfl (by decide) ?_
    refine pw_goto (tgt := 46) dc_Message_writeOn_75 (by decide) ?_
    exact h
set_option maxRecDepth 20000 in
theorem e_Message_writeOn_130 {d : Nat} {σ : PH} {K : PO → PH → Prop} (x1 : Nat) (h : PW (d + 1) M_Message_writeOn 133 [uu, .ref x1, uu, uu, .int 0] [] σ K) : PW (d + 1) M_Message_writeOn 130 [uu, .ref x1, uu, uu, uu] [] σ K := by
  refine pw_iconst (v := 0) dc_Message_writeOn_130 (by decide) ?_
  refine pw_istore dc_Message_writeOn_131 (by decide) ?_
  exact h
set_option maxRecDepth 20000 in
theorem e_Message_writeOn_133 {d : Nat} {σ : PH} {K : PO → PH → Prop} (x1 : Nat) (x4 : Int32) (h : (if 4 ≤ x4 then sh σ x1 = (1, 3) ∧ PW d M_Text_add 0 [.ref x1, .int 10] [] σ (kV (fun σ1 => K (.inl none) σ1) K) else sh σ x1 = (1, 3) ∧ PW d M_Text_add 0 [.ref x1, .int 78] [] σ (kV (fun σ2 => PW (d + 1) M_Message_writeOn 133 [uu, .ref x1, uu, uu, .int (x4 + 1)] [] σ2 K) K))) : PW (d + 1) M_Message_writeOn 133 [uu, .ref x1, uu, uu, .int x4] [] σ K := by
  refine pw_iload dc_Message_writeOn_133 rfl ?_
  refine pw_iconst (v := 4) dc_Message_writeOn_135 (by decide) ?_
  refine pw_icmp_ge (tgt := 151) dc_Message_writeOn_136 (by decide) (fun hc => ?_) (fun hc => ?_)
  · have h := ite_t h hc
    refine pw_aload_n dc_Message_writeOn_151 rfl rfl ?_
    refine pw_bipush (v := 10) dc_Message_writeOn_152 (by decide) ?_
    obtain ⟨hs1, h⟩ := h
    refine pw_callV (vs := [.int 10]) (st := []) (b := x1) (cn := 3) dc_Message_writeOn_154 cq_Text_add (List.mem_of_getElem? (i := 527) (by decide +kernel)) (List.mem_of_getElem? (i := 528) (by decide +kernel)) (List.mem_of_getElem? (i := 798) (by decide +kernel)) rfl hs1 rfl rfl (by decide) (cat_cons rfl (cat_nil)) (Nat.le_of_ble_eq_true rfl) (PW.mono (kV_kN (fun σ1 h => ?_)) h)
    exact pw_vret dc_Message_writeOn_157 rfl h
  · have h := ite_f h hc
    refine pw_aload_n dc_Message_writeOn_139 rfl rfl ?_
    refine pw_bipush (v := 78) dc_Message_writeOn_140 (by decide) ?_
    obtain ⟨hs2, h⟩ := h
    refine pw_callV (vs := [.int 78]) (st := []) (b := x1) (cn := 3) dc_Message_writeOn_142 cq_Text_add (List.mem_of_getElem? (i := 527) (by decide +kernel)) (List.mem_of_getElem? (i := 528) (by decide +kernel)) (List.mem_of_getElem? (i := 798) (by decide +kernel)) rfl hs2 rfl rfl (by decide) (cat_cons rfl (cat_nil)) (Nat.le_of_ble_eq_true rfl) (PW.mono (kV_kN (fun σ2 h => ?_)) h)
    refine pw_iincv (v := 1) dc_Message_writeOn_145 (by decide) rfl (by decide) ?_
    refine pw_goto (tgt := 133) dc_Message_writeOn_148 (by decide) ?_
    exact h
theorem dc_Outlet_init_0 : decode M_Outlet_init.2.1 0 = .ok (.aload_n 0, 1) := by decide +kernel
theorem dc_Outlet_init_1 : decode M_Outlet_init.2.1 1 = .ok (.invokespecial 3, 3) := by decide +kernel
theorem dc_Outlet_init_4 : decode M_Outlet_init.2.1 4 = .ok (.aload_n 0, 1) := by decide +kernel
theorem dc_Outlet_init_5 : decode M_Outlet_init.2.1 5 = .ok (.new 9, 3) := by decide +kernel
theorem dc_Outlet_init_8 : decode M_Outlet_init.2.1 8 = .ok (.dup, 1) := by decide +kernel
theorem dc_Outlet_init_9 : decode M_Outlet_init.2.1 9 = .ok (.bipush 68, 2) := by decide +kernel
theorem dc_Outlet_init_11 : decode M_Outlet_init.2.1 11 = .ok (.invokespecial 11, 3) := by decide +kernel
theorem dc_Outlet_init_14 : decode M_Outlet_init.2.1 14 = .ok (.putfield 14, 3) := by decide +kernel
theorem dc_Outlet_init_17 : decode M_Outlet_init.2.1 17 = .ok (.aload_n 0, 1) := by decide +kernel
theorem dc_Outlet_init_18 : decode M_Outlet_init.2.1 18 = .ok (.iconst 3, 1) := by decide +kernel
theorem dc_Outlet_init_19 : decode M_Outlet_init.2.1 19 = .ok (.anewarray 20, 3) := by decide +kernel
theorem dc_Outlet_init_22 : decode M_Outlet_init.2.1 22 = .ok (.putfield 22, 3) := by decide +kernel
theorem dc_Outlet_init_25 : decode M_Outlet_init.2.1 25 = .ok (.aload_n 0, 1) := by decide +kernel
theorem dc_Outlet_init_26 : decode M_Outlet_init.2.1 26 = .ok (.iconst 3, 1) := by decide +kernel
theorem dc_Outlet_init_27 : decode M_Outlet_init.2.1 27 = .ok (.anewarray 20, 3) := by decide +kernel
theorem dc_Outlet_init_30 : decode M_Outlet_init.2.1 30 = .ok (.putfield 26, 3) := by decide +kernel
theorem dc_Outlet_init_33 : decode M_Outlet_init.2.1 33 = .ok (.aload_n 0, 1) := by decide +kernel
theorem dc_Outlet_init_34 : decode M_Outlet_init.2.1 34 = .ok (.iload_n 1, 1) := by decide +kernel
theorem dc_Outlet_init_35 : decode M_Outlet_init.2.1 35 = .ok (.putfield 29, 3) := by decide +kernel
theorem dc_Outlet_init_38 : decode M_Outlet_init.2.1 38 = .ok (.return_, 1) := by decide +kernel
set_option maxRecDepth 20000 in
theorem e_Outlet_init_0 {d : Nat} {σ : PH} {K : PO → PH → Prop} (x0 : Nat) (x1 : Int32) (h : cc σ + 1 ≤ 601024 ∧ cs σ + 2 ≤ 7293034 ∧ (∀ σ1 : PH, σ1 = mk σ (1, 3) 2 → PW d M_Text_init 0 [.ref (nx σ), .int 68] [] σ1 (kV (fun σ2 => sh σ2 x0 = (1, 5) ∧ (∀ σ3 : PH, σ3 = pR σ2 321 x0 (some (nx σ)) → cc σ3 + 1 ≤ 601024 ∧ cs σ3 + 3 ≤ 7293034 ∧ (∀ σ4 : PH, σ4 = mk σ3 (7, 3) 3 → sh σ4 x0 = (1, 5) ∧ (∀ σ5 : PH, σ5 = pR σ4 328 x0 (some (nx σ3)) → cc σ5 + 1 ≤ 601024 ∧ cs σ5 + 3 ≤ 7293034 ∧ (∀ σ6 : PH, σ6 = mk σ5 (7, 3) 3 → sh σ6 x0 = (1, 5) ∧ (∀ σ7 : PH, σ7 = pR σ6 330 x0 (some (nx σ5)) → sh σ7 x0 = (1, 5) ∧ (∀ σ8 : PH, σ8 = pI σ7 320 x0 x1 → K (.inl none) σ8))))))) K))) : PW (d + 1) M_Outlet_init 0 [.ref x0, .int x1] [] σ K := by
  refine pw_aload_n dc_Outlet_init_0 rfl rfl ?_
  refine pw_objInit dc_Outlet_init_1 (List.mem_of_getElem? (i := 241) (by decide +kernel)) (List.mem_of_getElem? (i := 91) (by decide +kernel)) (List.mem_of_getElem? (i := 92) (by decide +kernel)) (Nat.le_of_ble_eq_true rfl) ?_
  refine pw_aload_n dc_Outlet_init_4 rfl rfl ?_
  obtain ⟨hr1, hr2, h⟩ := h
  have h := h _ rfl
  refine pw_new (c := 3) dc_Outlet_init_5 (by decide) (List.mem_of_getElem? (i := 242) (by decide +kernel)) rfl hr1 hr2 ?_
  refine pw_dup dc_Outlet_init_8 rfl ?_
  refine pw_bipush (v := 68) dc_Outlet_init_9 (by decide) ?_
  refine pw_callI (vs := [.int 68]) (st := [.ref (nx σ), .ref x0]) (b := (nx σ)) dc_Outlet_init_11 cq_Text_init rfl rfl (List.mem_of_getElem? (i := 190) (by decide +kernel)) (List.mem_of_getElem? (i := 189) (by decide +kernel)) (Or.inl (List.mem_of_getElem? (i := 243) (by decide +kernel))) rfl rfl (by decide) (cat_cons rfl (cat_nil)) (Nat.le_of_ble_eq_true rfl) (PW.mono (kV_kN (fun σ2 h => ?_)) h)
  obtain ⟨hs1, h⟩ := h
  have h := h _ rfl
  refine pw_putR (c := 5) (k := 1) (f := 321) (v := some (nx σ)) dc_Outlet_init_14 fl_Outlet_14 (Or.inr ⟨rfl, rfl, rfl, List.mem_of_getElem? (i := 246) (by decide +kernel)⟩) rfl rfl hs1 ?_
  refine pw_aload_n dc_Outlet_init_17 rfl rfl ?_
  refine pw_iconst (v := 3) dc_Outlet_init_18 (by decide) ?_
  refine PW.top (v' := .int (nI 3)) rfl ?_
  obtain ⟨hr3, hr4, h⟩ := h
  have h := h _ rfl
  refine pw_anew (k := 7) (N := 3) dc_Outlet_init_19 (by unfold rk; decide) (List.mem_of_getElem? (i := 244) (by decide +kernel)) (List.mem_of_getElem? (i := 96) (by decide +kernel)) (by decide) hr3 hr4 ?_
  obtain ⟨hs2, h⟩ := h
  have h := h _ rfl
  refine pw_putR (c := 5) (k := 8) (f := 328) (v := some _) dc_Outlet_init_22 fl_Outlet_22 (Or.inr ⟨rfl, rfl, rfl, List.mem_of_getElem? (i := 253) (by decide +kernel)⟩) rfl rfl hs2 ?_
  refine pw_aload_n dc_Outlet_init_25 rfl rfl ?_
  refine pw_iconst (v := 3) dc_Outlet_init_26 (by decide) ?_
  refine PW.top (v' := .int (nI 3)) rfl ?_
  obtain ⟨hr5, hr6, h⟩ := h
  have h := h _ rfl
  refine pw_anew (k := 7) (N := 3) dc_Outlet_init_27 (by unfold rk; decide) (List.mem_of_getElem? (i := 244) (by decide +kernel)) (List.mem_of_getElem? (i := 96) (by decide +kernel)) (by decide) hr5 hr6 ?_
  obtain ⟨hs3, h⟩ := h
  have h := h _ rfl
  refine pw_putR (c := 5) (k := 10) (f := 330) (v := some _) dc_Outlet_init_30 fl_Outlet_26 (Or.inr ⟨rfl, rfl, rfl, List.mem_of_getElem? (i := 256) (by decide +kernel)⟩) rfl rfl hs3 ?_
  refine pw_aload_n dc_Outlet_init_33 rfl rfl ?_
  refine pw_iload_n dc_Outlet_init_34 rfl ?_
  obtain ⟨hs4, h⟩ := h
  have h := h _ rfl
  refine pw_putI (c := 5) (k := 0) (f := 320) dc_Outlet_init_35 fl_Outlet_29 (Or.inr ⟨rfl, rfl, rfl, List.mem_of_getElem? (i := 245) (by decide +kernel)⟩) rfl rfl hs4 ?_
  exact pw_vret dc_Outlet_init_38 rfl h
theorem dc_Outlet_isIdle_0 : decode M_Outlet_isIdle.2.1 0 = .ok (.aload_n 0, 1) := by decide +kernel
theorem dc_Outlet_isIdle_1 : decode M_Outlet_isIdle.2.1 1 = .ok (.getfield 33, 3) := by decide +kernel
theorem dc_Outlet_isIdle_4 : decode M_Outlet_isIdle.2.1 4 = .ok (.ifnonnull 7, 3) := by decide +kernel
theorem dc_Outlet_isIdle_7 : decode M_Outlet_isIdle.2.1 7 = .ok (.iconst 1, 1) := by decide +kernel
theorem dc_Outlet_isIdle_8 : decode M_Outlet_isIdle.2.1 8 = .ok (.goto 4, 3) := by decide +kernel
theorem dc_Outlet_isIdle_11 : decode M_Outlet_isIdle.2.1 11 = .ok (.iconst 0, 1) := by decide +kernel
theorem dc_Outlet_isIdle_12 : decode M_Outlet_isIdle.2.1 12 = .ok (.ireturn, 1) := by decide +kernel
set_option maxRecDepth 20000 in
theorem e_Outlet_isIdle_0 {d : Nat} {σ : PH} {K : PO → PH → Prop} (x0 : Nat) (h : sh σ x0 = (1, 5) ∧ (if gR σ 324 x0 = none then K (.inl (some (.int 1))) σ else K (.inl (some (.int 0))) σ)) : PW d M_Outlet_isIdle 0 [.ref x0] [] σ K := by
  refine pw_aload_n dc_Outlet_isIdle_0 rfl rfl ?_
  obtain ⟨hs1, h⟩ := h
  refine pw_getR (c := 5) (k := 4) (f := 324) dc_Outlet_isIdle_1 fl_Outlet_33 rfl rfl hs1 ?_
  refine pw_ifnonnull (v := gR σ 324 x0) (tgt := 11) dc_Outlet_isIdle_4 (by decide) (fun hc => ?_) (fun hc => ?_)
  · have h := ite_f h hc
    refine pw_iconst (v := 0) dc_Outlet_isIdle_11 (by decide) ?_
    exact pw_iret dc_Outlet_isIdle_12 rfl (bo_nar (Or.inl rfl)) h
  · have h := ite_t h hc
    refine pw_iconst (v := 1) dc_Outlet_isIdle_7 (by decide) ?_
    refine pw_goto (tgt := 12) dc_Outlet_isIdle_8 (by decide) ?_
    exact pw_iret dc_Outlet_isIdle_12 rfl (bo_nar (Or.inr rfl)) h
theorem dc_Outlet_beginAnew_0 : decode M_Outlet_beginAnew.2.1 0 = .ok (.aload_n 0, 1) := by decide +kernel
theorem dc_Outlet_beginAnew_1 : decode M_Outlet_beginAnew.2.1 1 = .ok (.iconst 0, 1) := by decide +kernel
theorem dc_Outlet_beginAnew_2 : decode M_Outlet_beginAnew.2.1 2 = .ok (.putfield 37, 3) := by decide +kernel
theorem dc_Outlet_beginAnew_5 : decode M_Outlet_beginAnew.2.1 5 = .ok (.aload_n 0, 1) := by decide +kernel
theorem dc_Outlet_beginAnew_6 : decode M_Outlet_beginAnew.2.1 6 = .ok (.iconst 0, 1) := by decide +kernel
theorem dc_Outlet_beginAnew_7 : decode M_Outlet_beginAnew.2.1 7 = .ok (.putfield 40, 3) := by decide +kernel
theorem dc_Outlet_beginAnew_10 : decode M_Outlet_beginAnew.2.1 10 = .ok (.return_, 1) := by decide +kernel
set_option maxRecDepth 20000 in
theorem e_Outlet_beginAnew_0 {d : Nat} {σ : PH} {K : PO → PH → Prop} (x0 : Nat) (h : sh σ x0 = (1, 5) ∧ (∀ σ1 : PH, σ1 = pI σ 322 x0 0 → sh σ1 x0 = (1, 5) ∧ (∀ σ2 : PH, σ2 = pI σ1 323 x0 0 → K (.inl none) σ2))) : PW d M_Outlet_beginAnew 0 [.ref x0] [] σ K := by
  refine pw_aload_n dc_Outlet_beginAnew_0 rfl rfl ?_
  refine pw_iconst (v := 0) dc_Outlet_beginAnew_1 (by decide) ?_
  obtain ⟨hs1, h⟩ := h
  have h := h _ rfl
  refine pw_putI (c := 5) (k := 2) (f := 322) dc_Outlet_beginAnew_2 fl_Outlet_37 (Or.inl rfl) rfl rfl hs1 ?_
  refine pw_aload_n dc_Outlet_beginAnew_5 rfl rfl ?_
  refine pw_iconst (v := 0) dc_Outlet_beginAnew_6 (by decide) ?_
  obtain ⟨hs2, h⟩ := h
  have h := h _ rfl
  refine pw_putZ (c := 5) (k := 3) (f := 323) dc_Outlet_beginAnew_7 fl_Outlet_40 (Or.inl rfl) rfl rfl hs2 (Or.inl rfl) ?_
  exact pw_vret dc_Outlet_beginAnew_10 rfl h
theorem dc_Outlet_asksAgain_0 : decode M_Outlet_asksAgain.2.1 0 = .ok (.iconst 0, 1) := by decide +kernel
theorem dc_Outlet_asksAgain_1 : decode M_Outlet_asksAgain.2.1 1 = .ok (.istore_n 2, 1) := by decide +kernel
theorem dc_Outlet_asksAgain_2 : decode M_Outlet_asksAgain.2.1 2 = .ok (.iload_n 2, 1) := by decide +kernel
theorem dc_Outlet_asksAgain_3 : decode M_Outlet_asksAgain.2.1 3 = .ok (.iconst 3, 1) := by decide +kernel
theorem dc_Outlet_asksAgain_4 : decode M_Outlet_asksAgain.2.1 4 = .ok (.if_icmp .ge 63, 3) := by decide +kernel
theorem dc_Outlet_asksAgain_7 : decode M_Outlet_asksAgain.2.1 7 = .ok (.aload_n 0, 1) := by decide +kernel
theorem dc_Outlet_asksAgain_8 : decode M_Outlet_asksAgain.2.1 8 = .ok (.getfield 26, 3) := by decide +kernel
theorem dc_Outlet_asksAgain_11 : decode M_Outlet_asksAgain.2.1 11 = .ok (.iload_n 2, 1) := by decide +kernel
theorem dc_Outlet_asksAgain_12 : decode M_Outlet_asksAgain.2.1 12 = .ok (.aaload, 1) := by decide +kernel
theorem dc_Outlet_asksAgain_13 : decode M_Outlet_asksAgain.2.1 13 = .ok (.astore_n 3, 1) := by decide +kernel
theorem dc_Outlet_asksAgain_14 : decode M_Outlet_asksAgain.2.1 14 = .ok (.aload_n 3, 1) := by decide +kernel
theorem dc_Outlet_asksAgain_15 : decode M_Outlet_asksAgain.2.1 15 = .ok (.ifnull 46, 3) := by decide +kernel
theorem dc_Outlet_asksAgain_18 : decode M_Outlet_asksAgain.2.1 18 = .ok (.aload_n 3, 1) := by decide +kernel
theorem dc_Outlet_asksAgain_19 : decode M_Outlet_asksAgain.2.1 19 = .ok (.getfield 44, 3) := by decide +kernel
theorem dc_Outlet_asksAgain_22 : decode M_Outlet_asksAgain.2.1 22 = .ok (.aload_n 0, 1) := by decide +kernel
theorem dc_Outlet_asksAgain_23 : decode M_Outlet_asksAgain.2.1 23 = .ok (.getfield 29, 3) := by decide +kernel
theorem dc_Outlet_asksAgain_26 : decode M_Outlet_asksAgain.2.1 26 = .ok (.iaload, 1) := by decide +kernel
theorem dc_Outlet_asksAgain_27 : decode M_Outlet_asksAgain.2.1 27 = .ok (.iload_n 1, 1) := by decide +kernel
theorem dc_Outlet_asksAgain_28 : decode M_Outlet_asksAgain.2.1 28 = .ok (.if_icmp .ne 33, 3) := by decide +kernel
theorem dc_Outlet_asksAgain_31 : decode M_Outlet_asksAgain.2.1 31 = .ok (.aload_n 0, 1) := by decide +kernel
theorem dc_Outlet_asksAgain_32 : decode M_Outlet_asksAgain.2.1 32 = .ok (.getfield 48, 3) := by decide +kernel
theorem dc_Outlet_asksAgain_35 : decode M_Outlet_asksAgain.2.1 35 = .ok (.iconst 3, 1) := by decide +kernel
theorem dc_Outlet_asksAgain_36 : decode M_Outlet_asksAgain.2.1 36 = .ok (.if_icmp .ge 25, 3) := by decide +kernel
theorem dc_Outlet_asksAgain_39 : decode M_Outlet_asksAgain.2.1 39 = .ok (.aload_n 0, 1) := by decide +kernel
theorem dc_Outlet_asksAgain_40 : decode M_Outlet_asksAgain.2.1 40 = .ok (.getfield 22, 3) := by decide +kernel
theorem dc_Outlet_asksAgain_43 : decode M_Outlet_asksAgain.2.1 43 = .ok (.aload_n 0, 1) := by decide +kernel
theorem dc_Outlet_asksAgain_44 : decode M_Outlet_asksAgain.2.1 44 = .ok (.getfield 48, 3) := by decide +kernel
theorem dc_Outlet_asksAgain_47 : decode M_Outlet_asksAgain.2.1 47 = .ok (.aload_n 3, 1) := by decide +kernel
theorem dc_Outlet_asksAgain_48 : decode M_Outlet_asksAgain.2.1 48 = .ok (.aastore, 1) := by decide +kernel
theorem dc_Outlet_asksAgain_49 : decode M_Outlet_asksAgain.2.1 49 = .ok (.aload_n 0, 1) := by decide +kernel
theorem dc_Outlet_asksAgain_50 : decode M_Outlet_asksAgain.2.1 50 = .ok (.dup, 1) := by decide +kernel
theorem dc_Outlet_asksAgain_51 : decode M_Outlet_asksAgain.2.1 51 = .ok (.getfield 48, 3) := by decide +kernel
theorem dc_Outlet_asksAgain_54 : decode M_Outlet_asksAgain.2.1 54 = .ok (.iconst 1, 1) := by decide +kernel
theorem dc_Outlet_asksAgain_55 : decode M_Outlet_asksAgain.2.1 55 = .ok (.iadd, 1) := by decide +kernel
theorem dc_Outlet_asksAgain_56 : decode M_Outlet_asksAgain.2.1 56 = .ok (.putfield 48, 3) := by decide +kernel
theorem dc_Outlet_asksAgain_59 : decode M_Outlet_asksAgain.2.1 59 = .ok (.iconst 1, 1) := by decide +kernel
theorem dc_Outlet_asksAgain_60 : decode M_Outlet_asksAgain.2.1 60 = .ok (.ireturn, 1) := by decide +kernel
theorem dc_Outlet_asksAgain_61 : decode M_Outlet_asksAgain.2.1 61 = .ok (.iinc 2 1, 3) := by decide +kernel
theorem dc_Outlet_asksAgain_64 : decode M_Outlet_asksAgain.2.1 64 = .ok (.goto (-62), 3) := by decide +kernel
theorem dc_Outlet_asksAgain_67 : decode M_Outlet_asksAgain.2.1 67 = .ok (.iconst 0, 1) := by decide +kernel
theorem dc_Outlet_asksAgain_68 : decode M_Outlet_asksAgain.2.1 68 = .ok (.ireturn, 1) := by decide +kernel
set_option maxRecDepth 20000 in
theorem e_Outlet_asksAgain_0 {d : Nat} {σ : PH} {K : PO → PH → Prop} (x0 : Nat) (x1 : Int32) (h : PW d M_Outlet_asksAgain 2 [.ref x0, .int x1, .int 0, uu] [] σ K) : PW d M_Outlet_asksAgain 0 [.ref x0, .int x1, uu, uu] [] σ K := by
  refine pw_iconst (v := 0) dc_Outlet_asksAgain_0 (by decide) ?_
  refine pw_istore_n dc_Outlet_asksAgain_1 (by decide) ?_
  exact h
set_option maxRecDepth 20000 in
theorem e_Outlet_asksAgain_2 {d : Nat} {σ : PH} {K : PO → PH → Prop} (x0 : Nat) (x1 : Int32) (x2 : Int32) (h : (if 3 ≤ x2 then K (.inl (some (.int 0))) σ else sh σ x0 = (1, 5) ∧ (∃ b1 : Nat, gR σ 330 x0 = some b1 ∧ (∃ n1 : Nat, sh σ b1 = (7, n1) ∧ vp_in x2 n1 ∧ (if eR σ b1 (ix x2) = none then PW d M_Outlet_asksAgain 61 [.ref x0, .int x1, .int x2, uu] [] σ K else (∃ b2 : Nat, eR σ b1 (ix x2) = some b2 ∧ sh σ b2 = (1, 6) ∧ (∃ b3 : Nat, gR σ 388 b2 = some b3 ∧ (∃ n2 : Nat, sh σ b3 = (2, n2) ∧ vp_in (gI σ 320 x0) n2 ∧ (if (eI σ b3 (ix (gI σ 320 x0))) = x1 then (if 3 ≤ (gI σ 329 x0) then PW d M_Outlet_asksAgain 61 [.ref x0, .int x1, .int x2, uu] [] σ K else (∃ b4 : Nat, gR σ 328 x0 = some b4 ∧ (∃ n3 : Nat, sh σ b4 = (7, n3) ∧ vp_in (gI σ 329 x0) n3 ∧ (∀ b : Nat, eR σ b1 (ix x2) = some b → sh σ b = (1, 6)) ∧ (∀ σ1 : PH, σ1 = uR σ b4 (ix (gI σ 329 x0)) (eR σ b1 (ix x2)) → sh σ1 x0 = (1, 5) ∧ (∀ σ2 : PH, σ2 = pI σ1 329 x0 ((gI σ1 329 x0) + 1) → K (.inl (some (.int 1))) σ2))))) else PW d M_Outlet_asksAgain 61 [.ref x0, .int x1, .int x2, uu] [] σ K))))))))) : PW d M_Outlet_asksAgain 2 [.ref x0, .int x1, .int x2, uu] [] σ K := by
  refine pw_iload_n dc_Outlet_asksAgain_2 rfl ?_
  refine pw_iconst (v := 3) dc_Outlet_asksAgain_3 (by decide) ?_
  refine pw_icmp_ge (tgt := 67) dc_Outlet_asksAgain_4 (by decide) (fun hc => ?_) (fun hc => ?_)
  · have h := ite_t h hc
    refine pw_iconst (v := 0) dc_Outlet_asksAgain_67 (by decide) ?_
    exact pw_iret dc_Outlet_asksAgain_68 rfl (bo_nar (Or.inl rfl)) h
  · have h := ite_f h hc
    refine pw_aload_n dc_Outlet_asksAgain_7 rfl rfl ?_
    obtain ⟨hs1, h⟩ := h
    refine pw_getR (c := 5) (k := 10) (f := 330) dc_Outlet_asksAgain_8 fl_Outlet_26 rfl rfl hs1 ?_
    obtain ⟨b1, hb1, h⟩ := h
    refine PW.top (v' := .ref b1) (congrArg va_rf hb1) ?_
    refine pw_iload_n dc_Outlet_asksAgain_11 rfl ?_
    obtain ⟨n1, hs2, h⟩ := h
    obtain ⟨hi1, h⟩ := h
    refine pw_aald (k := 7) dc_Outlet_asksAgain_12 (by unfold rk; decide) hs2 hi1 ?_
    refine pw_astore_n dc_Outlet_asksAgain_13 (by decide) (va_rf_ref _) ?_
    refine pw_aload_n dc_Outlet_asksAgain_14 rfl (va_rf_ref _) ?_
    refine pw_ifnull (v := eR σ b1 (ix x2)) (tgt := 61) dc_Outlet_asksAgain_15 (by decide) (fun hc => ?_) (fun hc => ?_)
    · have h := ite_t h hc
      refine PW.drop (ls' := [.ref x0, .int x1, .int x2, uu]) ⟨Or.inl rfl, Or.inl rfl, Or.inl rfl, Or.inr rfl, trivial⟩ ?_
      exact h
    · have h := ite_f h hc
      refine pw_aload_n dc_Outlet_asksAgain_18 rfl (va_rf_ref _) ?_
      obtain ⟨b2, hb2, h⟩ := h
      refine PW.top (v' := .ref b2) (congrArg va_rf hb2) ?_
      obtain ⟨hs3, h⟩ := h
      refine pw_getR (c := 6) (k := 4) (f := 388) dc_Outlet_asksAgain_19 fl_Outlet_44 rfl rfl hs3 ?_
      obtain ⟨b3, hb3, h⟩ := h
      refine PW.top (v' := .ref b3) (congrArg va_rf hb3) ?_
      refine pw_aload_n dc_Outlet_asksAgain_22 rfl rfl ?_
      refine pw_getI (c := 5) (k := 0) (f := 320) dc_Outlet_asksAgain_23 fl_Outlet_29 rfl rfl hs1 ?_
      obtain ⟨n2, hs4, h⟩ := h
      obtain ⟨hi2, h⟩ := h
      refine pw_iald dc_Outlet_asksAgain_26 hs4 hi2 ?_
      refine pw_iload_n dc_Outlet_asksAgain_27 rfl ?_
      refine pw_icmp_ne (tgt := 61) dc_Outlet_asksAgain_28 (by decide) (fun hc => ?_) (fun hc => ?_)
      · have h := ite_f h hc
        refine PW.drop (ls' := [.ref x0, .int x1, .int x2, uu]) ⟨Or.inl rfl, Or.inl rfl, Or.inl rfl, Or.inr rfl, trivial⟩ ?_
        exact h
      · have h := ite_t h hc
        refine pw_aload_n dc_Outlet_asksAgain_31 rfl rfl ?_
        refine pw_getI (c := 5) (k := 9) (f := 329) dc_Outlet_asksAgain_32 fl_Outlet_48 rfl rfl hs1 ?_
        refine pw_iconst (v := 3) dc_Outlet_asksAgain_35 (by decide) ?_
        refine pw_icmp_ge (tgt := 61) dc_Outlet_asksAgain_36 (by decide) (fun hc => ?_) (fun hc => ?_)
        · have h := ite_t h hc
          refine PW.drop (ls' := [.ref x0, .int x1, .int x2, uu]) ⟨Or.inl rfl, Or.inl rfl, Or.inl rfl, Or.inr rfl, trivial⟩ ?_
          exact h
        · have h := ite_f h hc
          refine pw_aload_n dc_Outlet_asksAgain_39 rfl rfl ?_
          refine pw_getR (c := 5) (k := 8) (f := 328) dc_Outlet_asksAgain_40 fl_Outlet_22 rfl rfl hs1 ?_
          obtain ⟨b4, hb4, h⟩ := h
          refine PW.top (v' := .ref b4) (congrArg va_rf hb4) ?_
          refine pw_aload_n dc_Outlet_asksAgain_43 rfl rfl ?_
          refine pw_getI (c := 5) (k := 9) (f := 329) dc_Outlet_asksAgain_44 fl_Outlet_48 rfl rfl hs1 ?_
          refine pw_aload_n dc_Outlet_asksAgain_47 rfl (va_rf_ref _) ?_
          obtain ⟨n3, hs5, h⟩ := h
          obtain ⟨hi3, h⟩ := h
          obtain ⟨hv1, h⟩ := h
          have h := h _ rfl
          refine pw_aast (k := 7) (v := eR σ b1 (ix x2)) dc_Outlet_asksAgain_48 (by unfold rk; decide) hs5 hi3 hv1 ?_
          refine pw_aload_n dc_Outlet_asksAgain_49 rfl rfl ?_
          refine pw_dup dc_Outlet_asksAgain_50 rfl ?_
          obtain ⟨hs6, h⟩ := h
          refine pw_getI (c := 5) (k := 9) (f := 329) dc_Outlet_asksAgain_51 fl_Outlet_48 rfl rfl hs6 ?_
          refine pw_iconst (v := 1) dc_Outlet_asksAgain_54 (by decide) ?_
          refine pw_iadd dc_Outlet_asksAgain_55 ?_
          have h := h _ rfl
          refine pw_putI (c := 5) (k := 9) (f := 329) dc_Outlet_asksAgain_56 fl_Outlet_48 (Or.inl rfl) rfl rfl hs6 ?_
          refine pw_iconst (v := 1) dc_Outlet_asksAgain_59 (by decide) ?_
          exact pw_iret dc_Outlet_asksAgain_60 rfl (bo_nar (Or.inr rfl)) h
set_option maxRecDepth 20000 in
theorem e_Outlet_asksAgain_61 {d : Nat} {σ : PH} {K : PO → PH → Prop} (x0 : Nat) (x1 : Int32) (x2 : Int32) (h : PW d M_Outlet_asksAgain 2 [.ref x0, .int x1, .int (x2 + 1), uu] [] σ K) : PW d M_Outlet_asksAgain 61 [.ref x0, .int x1, .int x2, uu] [] σ K := by
  refine pw_iincv (v := 1) dc_Outlet_asksAgain_61 (by decide) rfl (by decide) ?_
  refine pw_goto (tgt := 2) dc_Outlet_asksAgain_64 (by decide) ?_
  exact h
theorem dc_Outlet_startsAsked_0 : decode M_Outlet_startsAsked.2.1 0 = .ok (.aload_n 0, 1) := by decide +kernel
theorem dc_Outlet_startsAsked_1 : decode M_Outlet_startsAsked.2.1 1 = .ok (.getfield 22, 3) := by decide +kernel
theorem dc_Outlet_startsAsked_4 : decode M_Outlet_startsAsked.2.1 4 = .ok (.iconst 0, 1) := by decide +kernel
theorem dc_Outlet_startsAsked_5 : decode M_Outlet_startsAsked.2.1 5 = .ok (.aaload, 1) := by decide +kernel
theorem dc_Outlet_startsAsked_6 : decode M_Outlet_startsAsked.2.1 6 = .ok (.astore_n 1, 1) := by decide +kernel
theorem dc_Outlet_startsAsked_7 : decode M_Outlet_startsAsked.2.1 7 = .ok (.aload_n 0, 1) := by decide +kernel
theorem dc_Outlet_startsAsked_8 : decode M_Outlet_startsAsked.2.1 8 = .ok (.getfield 48, 3) := by decide +kernel
theorem dc_Outlet_startsAsked_11 : decode M_Outlet_startsAsked.2.1 11 = .ok (.ifCond .eq 7, 3) := by decide +kernel
theorem dc_Outlet_startsAsked_14 : decode M_Outlet_startsAsked.2.1 14 = .ok (.aload_n 1, 1) := by decide +kernel
theorem dc_Outlet_startsAsked_15 : decode M_Outlet_startsAsked.2.1 15 = .ok (.ifnonnull 5, 3) := by decide +kernel
theorem dc_Outlet_startsAsked_18 : decode M_Outlet_startsAsked.2.1 18 = .ok (.iconst 0, 1) := by decide +kernel
theorem dc_Outlet_startsAsked_19 : decode M_Outlet_startsAsked.2.1 19 = .ok (.ireturn, 1) := by decide +kernel
theorem dc_Outlet_startsAsked_20 : decode M_Outlet_startsAsked.2.1 20 = .ok (.aload_n 0, 1) := by decide +kernel
theorem dc_Outlet_startsAsked_21 : decode M_Outlet_startsAsked.2.1 21 = .ok (.dup, 1) := by decide +kernel
theorem dc_Outlet_startsAsked_22 : decode M_Outlet_startsAsked.2.1 22 = .ok (.getfield 48, 3) := by decide +kernel
theorem dc_Outlet_startsAsked_25 : decode M_Outlet_startsAsked.2.1 25 = .ok (.iconst 1, 1) := by decide +kernel
theorem dc_Outlet_startsAsked_26 : decode M_Outlet_startsAsked.2.1 26 = .ok (.isub, 1) := by decide +kernel
theorem dc_Outlet_startsAsked_27 : decode M_Outlet_startsAsked.2.1 27 = .ok (.putfield 48, 3) := by decide +kernel
theorem dc_Outlet_startsAsked_30 : decode M_Outlet_startsAsked.2.1 30 = .ok (.iconst 0, 1) := by decide +kernel
theorem dc_Outlet_startsAsked_31 : decode M_Outlet_startsAsked.2.1 31 = .ok (.istore_n 2, 1) := by decide +kernel
theorem dc_Outlet_startsAsked_32 : decode M_Outlet_startsAsked.2.1 32 = .ok (.iload_n 2, 1) := by decide +kernel
theorem dc_Outlet_startsAsked_33 : decode M_Outlet_startsAsked.2.1 33 = .ok (.aload_n 0, 1) := by decide +kernel
theorem dc_Outlet_startsAsked_34 : decode M_Outlet_startsAsked.2.1 34 = .ok (.getfield 48, 3) := by decide +kernel
theorem dc_Outlet_startsAsked_37 : decode M_Outlet_startsAsked.2.1 37 = .ok (.if_icmp .ge 23, 3) := by decide +kernel
theorem dc_Outlet_startsAsked_40 : decode M_Outlet_startsAsked.2.1 40 = .ok (.aload_n 0, 1) := by decide +kernel
theorem dc_Outlet_startsAsked_41 : decode M_Outlet_startsAsked.2.1 41 = .ok (.getfield 22, 3) := by decide +kernel
theorem dc_Outlet_startsAsked_44 : decode M_Outlet_startsAsked.2.1 44 = .ok (.iload_n 2, 1) := by decide +kernel
theorem dc_Outlet_startsAsked_45 : decode M_Outlet_startsAsked.2.1 45 = .ok (.aload_n 0, 1) := by decide +kernel
theorem dc_Outlet_startsAsked_46 : decode M_Outlet_startsAsked.2.1 46 = .ok (.getfield 22, 3) := by decide +kernel
theorem dc_Outlet_startsAsked_49 : decode M_Outlet_startsAsked.2.1 49 = .ok (.iload_n 2, 1) := by decide +kernel
theorem dc_Outlet_startsAsked_50 : decode M_Outlet_startsAsked.2.1 50 = .ok (.iconst 1, 1) := by decide +kernel
theorem dc_Outlet_startsAsked_51 : decode M_Outlet_startsAsked.2.1 51 = .ok (.iadd, 1) := by decide +kernel
theorem dc_Outlet_startsAsked_52 : decode M_Outlet_startsAsked.2.1 52 = .ok (.aaload, 1) := by decide +kernel
theorem dc_Outlet_startsAsked_53 : decode M_Outlet_startsAsked.2.1 53 = .ok (.aastore, 1) := by decide +kernel
theorem dc_Outlet_startsAsked_54 : decode M_Outlet_startsAsked.2.1 54 = .ok (.iinc 2 1, 3) := by decide +kernel
theorem dc_Outlet_startsAsked_57 : decode M_Outlet_startsAsked.2.1 57 = .ok (.goto (-25), 3) := by decide +kernel
theorem dc_Outlet_startsAsked_60 : decode M_Outlet_startsAsked.2.1 60 = .ok (.aload_n 0, 1) := by decide +kernel
theorem dc_Outlet_startsAsked_61 : decode M_Outlet_startsAsked.2.1 61 = .ok (.aload_n 1, 1) := by decide +kernel
theorem dc_Outlet_startsAsked_62 : decode M_Outlet_startsAsked.2.1 62 = .ok (.aload_n 1, 1) := by decide +kernel
theorem dc_Outlet_startsAsked_63 : decode M_Outlet_startsAsked.2.1 63 = .ok (.getfield 44, 3) := by decide +kernel
theorem dc_Outlet_startsAsked_66 : decode M_Outlet_startsAsked.2.1 66 = .ok (.aload_n 0, 1) := by decide +kernel
theorem dc_Outlet_startsAsked_67 : decode M_Outlet_startsAsked.2.1 67 = .ok (.getfield 29, 3) := by decide +kernel
theorem dc_Outlet_startsAsked_70 : decode M_Outlet_startsAsked.2.1 70 = .ok (.iaload, 1) := by decide +kernel
theorem dc_Outlet_startsAsked_71 : decode M_Outlet_startsAsked.2.1 71 = .ok (.iconst 1, 1) := by decide +kernel
theorem dc_Outlet_startsAsked_72 : decode M_Outlet_startsAsked.2.1 72 = .ok (.invokevirtual 51, 3) := by decide +kernel
theorem dc_Outlet_startsAsked_75 : decode M_Outlet_startsAsked.2.1 75 = .ok (.iconst 1, 1) := by decide +kernel
theorem dc_Outlet_startsAsked_76 : decode M_Outlet_startsAsked.2.1 76 = .ok (.ireturn, 1) := by decide +kernel
set_option maxRecDepth 20000 in
theorem e_Outlet_startsAsked_0 {d : Nat} {σ : PH} {K : PO → PH → Prop} (x0 : Nat) (h : sh σ x0 = (1, 5) ∧ (∃ b1 : Nat, gR σ 328 x0 = some b1 ∧ (∃ n1 : Nat, sh σ b1 = (7, n1) ∧ vp_in 0 n1 ∧ (if (gI σ 329 x0) = 0 then K (.inl (some (.int 0))) σ else (if eR σ b1 (ix 0) = none then K (.inl (some (.int 0))) σ else (∀ σ1 : PH, σ1 = pI σ 329 x0 ((gI σ 329 x0) - 1) → PW (d + 1) M_Outlet_startsAsked 32 [.ref x0, va_rf (eR σ b1 (ix 0)), .int 0] [] σ1 K)))))) : PW (d + 1) M_Outlet_startsAsked 0 [.ref x0, uu, uu] [] σ K := by
  refine pw_aload_n dc_Outlet_startsAsked_0 rfl rfl ?_
  obtain ⟨hs1, h⟩ := h
  refine pw_getR (c := 5) (k := 8) (f := 328) dc_Outlet_startsAsked_1 fl_Outlet_22 rfl rfl hs1 ?_
  obtain ⟨b1, hb1, h⟩ := h
  refine PW.top (v' := .ref b1) (congrArg va_rf hb1) ?_
  refine pw_iconst (v := 0) dc_Outlet_startsAsked_4 (by decide) ?_
  obtain ⟨n1, hs2, h⟩ := h
  obtain ⟨hi1, h⟩ := h
  refine pw_aald (k := 7) dc_Outlet_startsAsked_5 (by unfold rk; decide) hs2 hi1 ?_
  refine pw_astore_n dc_Outlet_startsAsked_6 (by decide) (va_rf_ref _) ?_
  refine pw_aload_n dc_Outlet_startsAsked_7 rfl rfl ?_
  refine pw_getI (c := 5) (k := 9) (f := 329) dc_Outlet_startsAsked_8 fl_Outlet_48 rfl rfl hs1 ?_
  refine pw_if_eq (tgt := 18) dc_Outlet_startsAsked_11 (by decide) (fun hc => ?_) (fun hc => ?_)
  · have h := ite_t h hc
    refine pw_iconst (v := 0) dc_Outlet_startsAsked_18 (by decide) ?_
    exact pw_iret dc_Outlet_startsAsked_19 rfl (bo_nar (Or.inl rfl)) h
  · have h := ite_f h hc
    refine pw_aload_n dc_Outlet_startsAsked_14 rfl (va_rf_ref _) ?_
    refine pw_ifnonnull (v := eR σ b1 (ix 0)) (tgt := 20) dc_Outlet_startsAsked_15 (by decide) (fun hc => ?_) (fun hc => ?_)
    · have h := ite_f h hc
      refine pw_aload_n dc_Outlet_startsAsked_20 rfl rfl ?_
      refine pw_dup dc_Outlet_startsAsked_21 rfl ?_
      refine pw_getI (c := 5) (k := 9) (f := 329) dc_Outlet_startsAsked_22 fl_Outlet_48 rfl rfl hs1 ?_
      refine pw_iconst (v := 1) dc_Outlet_startsAsked_25 (by decide) ?_
      refine pw_isub dc_Outlet_startsAsked_26 ?_
      have h := h _ rfl
      refine pw_putI (c := 5) (k := 9) (f := 329) dc_Outlet_startsAsked_27 fl_Outlet_48 (Or.inl rfl) rfl rfl hs1 ?_
      refine pw_iconst (v := 0) dc_Outlet_startsAsked_30 (by decide) ?_
      refine pw_istore_n dc_Outlet_startsAsked_31 (by decide) ?_
      exact h
    · have h := ite_t h hc
      refine pw_iconst (v := 0) dc_Outlet_startsAsked_18 (by decide) ?_
      exact pw_iret dc_Outlet_startsAsked_19 rfl (bo_nar (Or.inl rfl)) h
set_option maxRecDepth 20000 in
theorem e_Outlet_startsAsked_32 {d : Nat} {σ : PH} {K : PO → PH → Prop} (x0 : Nat) (x1 : Option Nat) (x2 : Int32) (h : sh σ x0 = (1, 5) ∧ (if (gI σ 329 x0) ≤ x2 then (∃ b1 : Nat, x1 = some b1 ∧ sh σ b1 = (1, 6) ∧ (∃ b2 : Nat, gR σ 388 b1 = some b2 ∧ (∃ n1 : Nat, sh σ b2 = (2, n1) ∧ vp_in (gI σ 320 x0) n1 ∧ PW d M_Outlet_start 0 [.ref x0, .ref b1, .int (eI σ b2 (ix (gI σ 320 x0))), .int 1] [] σ (kV (fun σ1 => K (.inl (some (.int 1))) σ1) K)))) else (∃ b3 : Nat, gR σ 328 x0 = some b3 ∧ (∃ n2 : Nat, sh σ b3 = (7, n2) ∧ vp_in (x2 + 1) n2 ∧ vp_in x2 n2 ∧ (∀ b : Nat, eR σ b3 (ix (x2 + 1)) = some b → sh σ b = (1, 6)) ∧ (∀ σ2 : PH, σ2 = uR σ b3 (ix x2) (eR σ b3 (ix (x2 + 1))) → PW (d + 1) M_Outlet_startsAsked 32 [.ref x0, va_rf x1, .int (x2 + 1)] [] σ2 K))))) : PW (d + 1) M_Outlet_startsAsked 32 [.ref x0, va_rf x1, .int x2] [] σ K := by
  refine pw_iload_n dc_Outlet_startsAsked_32 rfl ?_
  refine pw_aload_n dc_Outlet_startsAsked_33 rfl rfl ?_
  obtain ⟨hs1, h⟩ := h
  refine pw_getI (c := 5) (k := 9) (f := 329) dc_Outlet_startsAsked_34 fl_Outlet_48 rfl rfl hs1 ?_
  refine pw_icmp_ge (tgt := 60) dc_Outlet_startsAsked_37 (by decide) (fun hc => ?_) (fun hc => ?_)
  · have h := ite_t h hc
    refine pw_aload_n dc_Outlet_startsAsked_60 rfl rfl ?_
    refine pw_aload_n dc_Outlet_startsAsked_61 rfl (va_rf_ref _) ?_
    obtain ⟨b1, hb1, h⟩ := h
    refine PW.top (v' := .ref b1) (congrArg va_rf hb1) ?_
    refine pw_aload_n dc_Outlet_startsAsked_62 rfl (va_rf_ref _) ?_
    refine PW.top (v' := .ref b1) (congrArg va_rf hb1) ?_
    obtain ⟨hs2, h⟩ := h
    refine pw_getR (c := 6) (k := 4) (f := 388) dc_Outlet_startsAsked_63 fl_Outlet_44 rfl rfl hs2 ?_
    obtain ⟨b2, hb2, h⟩ := h
    refine PW.top (v' := .ref b2) (congrArg va_rf hb2) ?_
    refine pw_aload_n dc_Outlet_startsAsked_66 rfl rfl ?_
    refine pw_getI (c := 5) (k := 0) (f := 320) dc_Outlet_startsAsked_67 fl_Outlet_29 rfl rfl hs1 ?_
    obtain ⟨n1, hs3, h⟩ := h
    obtain ⟨hi1, h⟩ := h
    refine pw_iald dc_Outlet_startsAsked_70 hs3 hi1 ?_
    refine pw_iconst (v := 1) dc_Outlet_startsAsked_71 (by decide) ?_
    refine pw_callV (vs := [.ref b1, .int (eI σ b2 (ix (gI σ 320 x0))), .int 1]) (st := []) (b := x0) (cn := 5) dc_Outlet_startsAsked_72 cq_Outlet_start (List.mem_of_getElem? (i := 787) (by decide +kernel)) (List.mem_of_getElem? (i := 22) (by decide +kernel)) (List.mem_of_getElem? (i := 785) (by decide +kernel)) rfl hs1 rfl rfl (by decide) (cat_cons rfl (cat_cons rfl (cat_cons rfl (cat_nil)))) (Nat.le_of_ble_eq_true rfl) (PW.mono (kV_kN (fun σ1 h => ?_)) h)
    refine pw_iconst (v := 1) dc_Outlet_startsAsked_75 (by decide) ?_
    exact pw_iret dc_Outlet_startsAsked_76 rfl (bo_nar (Or.inr rfl)) h
  · have h := ite_f h hc
    refine pw_aload_n dc_Outlet_startsAsked_40 rfl rfl ?_
    refine pw_getR (c := 5) (k := 8) (f := 328) dc_Outlet_startsAsked_41 fl_Outlet_22 rfl rfl hs1 ?_
    obtain ⟨b3, hb3, h⟩ := h
    refine PW.top (v' := .ref b3) (congrArg va_rf hb3) ?_
    refine pw_iload_n dc_Outlet_startsAsked_44 rfl ?_
    refine pw_aload_n dc_Outlet_startsAsked_45 rfl rfl ?_
    refine pw_getR (c := 5) (k := 8) (f := 328) dc_Outlet_startsAsked_46 fl_Outlet_22 rfl rfl hs1 ?_
    refine PW.top (v' := .ref b3) (congrArg va_rf hb3) ?_
    refine pw_iload_n dc_Outlet_startsAsked_49 rfl ?_
    refine pw_iconst (v := 1) dc_Outlet_startsAsked_50 (by decide) ?_
    refine pw_iadd dc_Outlet_startsAsked_51 ?_
    obtain ⟨n2, hs4, h⟩ := h
    obtain ⟨hi2, h⟩ := h
    refine pw_aald (k := 7) dc_Outlet_startsAsked_52 (by unfold rk; decide) hs4 hi2 ?_
    obtain ⟨hi3, h⟩ := h
    obtain ⟨hv1, h⟩ := h
    have h := h _ rfl
    refine pw_aast (k := 7) (v := eR σ b3 (ix (x2 + 1))) dc_Outlet_startsAsked_53 (by unfold rk; decide) hs4 hi3 hv1 ?_
    refine pw_iincv (v := 1) dc_Outlet_startsAsked_54 (by decide) rfl (by decide) ?_
    refine pw_goto (tgt := 32) dc_Outlet_startsAsked_57 (by decide) ?_
    exact h
theorem dc_Outlet_startEntry_0 : decode M_Outlet_startEntry.2.1 0 = .ok (.aload_n 1, 1) := by decide +kernel
theorem dc_Outlet_startEntry_1 : decode M_Outlet_startEntry.2.1 1 = .ok (.ifnull 35, 3) := by decide +kernel
theorem dc_Outlet_startEntry_4 : decode M_Outlet_startEntry.2.1 4 = .ok (.aload_n 0, 1) := by decide +kernel
theorem dc_Outlet_startEntry_5 : decode M_Outlet_startEntry.2.1 5 = .ok (.aload_n 0, 1) := by decide +kernel
theorem dc_Outlet_startEntry_6 : decode M_Outlet_startEntry.2.1 6 = .ok (.getfield 55, 3) := by decide +kernel
theorem dc_Outlet_startEntry_9 : decode M_Outlet_startEntry.2.1 9 = .ok (.invokestatic 58, 3) := by decide +kernel
theorem dc_Outlet_startEntry_12 : decode M_Outlet_startEntry.2.1 12 = .ok (.putfield 55, 3) := by decide +kernel
theorem dc_Outlet_startEntry_15 : decode M_Outlet_startEntry.2.1 15 = .ok (.aload_n 1, 1) := by decide +kernel
theorem dc_Outlet_startEntry_16 : decode M_Outlet_startEntry.2.1 16 = .ok (.getfield 44, 3) := by decide +kernel
theorem dc_Outlet_startEntry_19 : decode M_Outlet_startEntry.2.1 19 = .ok (.aload_n 0, 1) := by decide +kernel
theorem dc_Outlet_startEntry_20 : decode M_Outlet_startEntry.2.1 20 = .ok (.getfield 29, 3) := by decide +kernel
theorem dc_Outlet_startEntry_23 : decode M_Outlet_startEntry.2.1 23 = .ok (.bipush (-2), 2) := by decide +kernel
theorem dc_Outlet_startEntry_25 : decode M_Outlet_startEntry.2.1 25 = .ok (.iastore, 1) := by decide +kernel
theorem dc_Outlet_startEntry_26 : decode M_Outlet_startEntry.2.1 26 = .ok (.aload_n 0, 1) := by decide +kernel
theorem dc_Outlet_startEntry_27 : decode M_Outlet_startEntry.2.1 27 = .ok (.aload_n 1, 1) := by decide +kernel
theorem dc_Outlet_startEntry_28 : decode M_Outlet_startEntry.2.1 28 = .ok (.aload_n 0, 1) := by decide +kernel
theorem dc_Outlet_startEntry_29 : decode M_Outlet_startEntry.2.1 29 = .ok (.getfield 55, 3) := by decide +kernel
theorem dc_Outlet_startEntry_32 : decode M_Outlet_startEntry.2.1 32 = .ok (.iconst 0, 1) := by decide +kernel
theorem dc_Outlet_startEntry_33 : decode M_Outlet_startEntry.2.1 33 = .ok (.invokevirtual 51, 3) := by decide +kernel
theorem dc_Outlet_startEntry_36 : decode M_Outlet_startEntry.2.1 36 = .ok (.return_, 1) := by decide +kernel
set_option maxRecDepth 20000 in
theorem e_Outlet_startEntry_0 {d : Nat} {σ : PH} {K : PO → PH → Prop} (x0 : Nat) (x1 : Option Nat) (h : (if x1 = none then K (.inl none) σ else sh σ x0 = (1, 5) ∧ PW d M_Numbers_numberBehind 0 [.int (gI σ 327 x0)] [] σ (kI (fun r1 σ1 => sh σ1 x0 = (1, 5) ∧ (∀ σ2 : PH, σ2 = pI σ1 327 x0 r1 → (∃ b1 : Nat, x1 = some b1 ∧ sh σ2 b1 = (1, 6) ∧ (∃ b2 : Nat, gR σ2 388 b1 = some b2 ∧ sh σ2 x0 = (1, 5) ∧ (∃ n1 : Nat, sh σ2 b2 = (2, n1) ∧ vp_in (gI σ2 320 x0) n1 ∧ (∀ σ3 : PH, σ3 = uI σ2 b2 (ix (gI σ2 320 x0)) ((-2)) → (∃ b3 : Nat, x1 = some b3 ∧ sh σ3 x0 = (1, 5) ∧ PW d M_Outlet_start 0 [.ref x0, .ref b3, .int (gI σ3 327 x0), .int 0] [] σ3 (kV (fun σ4 => K (.inl none) σ4) K)))))))) K))) : PW (d + 1) M_Outlet_startEntry 0 [.ref x0, va_rf x1] [] σ K := by
  refine pw_aload_n dc_Outlet_startEntry_0 rfl (va_rf_ref _) ?_
  refine pw_ifnull (v := x1) (tgt := 36) dc_Outlet_startEntry_1 (by decide) (fun hc => ?_) (fun hc => ?_)
  · have h := ite_t h hc
    exact pw_vret dc_Outlet_startEntry_36 rfl h
  · have h := ite_f h hc
    refine pw_aload_n dc_Outlet_startEntry_4 rfl rfl ?_
    refine pw_aload_n dc_Outlet_startEntry_5 rfl rfl ?_
    obtain ⟨hs1, h⟩ := h
    refine pw_getI (c := 5) (k := 7) (f := 327) dc_Outlet_startEntry_6 fl_Outlet_55 rfl rfl hs1 ?_
    refine pw_callS (vs := [.int (gI σ 327 x0)]) (st := [.ref x0]) dc_Outlet_startEntry_9 cq_Numbers_numberBehind (List.mem_of_getElem? (i := 625) (by decide +kernel)) (List.mem_of_getElem? (i := 820) (by decide +kernel)) rfl rfl (cat_cons rfl (cat_nil)) (Nat.le_of_ble_eq_true rfl) (PW.mono (kI_kN (fun r1 σ1 h => ?_)) h)
    obtain ⟨hs2, h⟩ := h
    have h := h _ rfl
    refine pw_putI (c := 5) (k := 7) (f := 327) dc_Outlet_startEntry_12 fl_Outlet_55 (Or.inl rfl) rfl rfl hs2 ?_
    refine pw_aload_n dc_Outlet_startEntry_15 rfl (va_rf_ref _) ?_
    obtain ⟨b1, hb1, h⟩ := h
    refine PW.top (v' := .ref b1) (congrArg va_rf hb1) ?_
    obtain ⟨hs3, h⟩ := h
    refine pw_getR (c := 6) (k := 4) (f := 388) dc_Outlet_startEntry_16 fl_Outlet_44 rfl rfl hs3 ?_
    obtain ⟨b2, hb2, h⟩ := h
    refine PW.top (v' := .ref b2) (congrArg va_rf hb2) ?_
    refine pw_aload_n dc_Outlet_startEntry_19 rfl rfl ?_
    obtain ⟨hs4, h⟩ := h
    refine pw_getI (c := 5) (k := 0) (f := 320) dc_Outlet_startEntry_20 fl_Outlet_29 rfl rfl hs4 ?_
    refine pw_bipush (v := (-2)) dc_Outlet_startEntry_23 (by decide) ?_
    obtain ⟨n1, hs5, h⟩ := h
    obtain ⟨hi1, h⟩ := h
    have h := h _ rfl
    refine pw_iast dc_Outlet_startEntry_25 hs5 hi1 ?_
    refine pw_aload_n dc_Outlet_startEntry_26 rfl rfl ?_
    refine pw_aload_n dc_Outlet_startEntry_27 rfl (va_rf_ref _) ?_
    obtain ⟨b3, hb3, h⟩ := h
    refine PW.top (v' := .ref b3) (congrArg va_rf hb3) ?_
    refine pw_aload_n dc_Outlet_startEntry_28 rfl rfl ?_
    obtain ⟨hs6, h⟩ := h
    refine pw_getI (c := 5) (k := 7) (f := 327) dc_Outlet_startEntry_29 fl_Outlet_55 rfl rfl hs6 ?_
    refine pw_iconst (v := 0) dc_Outlet_startEntry_32 (by decide) ?_
    refine pw_callV (vs := [.ref b3, .int _, .int 0]) (st := []) (b := x0) (cn := 5) dc_Outlet_startEntry_33 cq_Outlet_start (List.mem_of_getElem? (i := 787) (by decide +kernel)) (List.mem_of_getElem? (i := 22) (by decide +kernel)) (List.mem_of_getElem? (i := 785) (by decide +kernel)) rfl hs6 rfl rfl (by decide) (cat_cons rfl (cat_cons rfl (cat_cons rfl (cat_nil)))) (Nat.le_of_ble_eq_true rfl) (PW.mono (kV_kN (fun σ4 h => ?_)) h)
    exact pw_vret dc_Outlet_startEntry_36 rfl h
theorem dc_Outlet_start_0 : decode M_Outlet_start.2.1 0 = .ok (.aload_n 0, 1) := by decide +kernel
theorem dc_Outlet_start_1 : decode M_Outlet_start.2.1 1 = .ok (.aload_n 1, 1) := by decide +kernel
theorem dc_Outlet_start_2 : decode M_Outlet_start.2.1 2 = .ok (.putfield 33, 3) := by decide +kernel
theorem dc_Outlet_start_5 : decode M_Outlet_start.2.1 5 = .ok (.aload_n 0, 1) := by decide +kernel
theorem dc_Outlet_start_6 : decode M_Outlet_start.2.1 6 = .ok (.iload_n 2, 1) := by decide +kernel
theorem dc_Outlet_start_7 : decode M_Outlet_start.2.1 7 = .ok (.putfield 64, 3) := by decide +kernel
theorem dc_Outlet_start_10 : decode M_Outlet_start.2.1 10 = .ok (.aload_n 0, 1) := by decide +kernel
theorem dc_Outlet_start_11 : decode M_Outlet_start.2.1 11 = .ok (.iload_n 3, 1) := by decide +kernel
theorem dc_Outlet_start_12 : decode M_Outlet_start.2.1 12 = .ok (.putfield 67, 3) := by decide +kernel
theorem dc_Outlet_start_15 : decode M_Outlet_start.2.1 15 = .ok (.aload_n 1, 1) := by decide +kernel
theorem dc_Outlet_start_16 : decode M_Outlet_start.2.1 16 = .ok (.aload_n 0, 1) := by decide +kernel
theorem dc_Outlet_start_17 : decode M_Outlet_start.2.1 17 = .ok (.getfield 14, 3) := by decide +kernel
theorem dc_Outlet_start_20 : decode M_Outlet_start.2.1 20 = .ok (.iload_n 2, 1) := by decide +kernel
theorem dc_Outlet_start_21 : decode M_Outlet_start.2.1 21 = .ok (.iload_n 3, 1) := by decide +kernel
theorem dc_Outlet_start_22 : decode M_Outlet_start.2.1 22 = .ok (.invokevirtual 70, 3) := by decide +kernel
theorem dc_Outlet_start_25 : decode M_Outlet_start.2.1 25 = .ok (.aload_n 0, 1) := by decide +kernel
theorem dc_Outlet_start_26 : decode M_Outlet_start.2.1 26 = .ok (.invokevirtual 74, 3) := by decide +kernel
theorem dc_Outlet_start_29 : decode M_Outlet_start.2.1 29 = .ok (.return_, 1) := by decide +kernel
set_option maxRecDepth 20000 in
theorem e_Outlet_start_0 {d : Nat} {σ : PH} {K : PO → PH → Prop} (x0 : Nat) (x1 : Nat) (x2 : Int32) (x3 : Int32) (h : sh σ x0 = (1, 5) ∧ (∀ σ1 : PH, σ1 = pR σ 324 x0 (some x1) → sh σ1 x0 = (1, 5) ∧ (∀ σ2 : PH, σ2 = pI σ1 325 x0 x2 → sh σ2 x0 = (1, 5) ∧ bo x3 ∧ (∀ σ3 : PH, σ3 = pI σ2 326 x0 x3 → sh σ3 x0 = (1, 5) ∧ (∃ b1 : Nat, gR σ3 321 x0 = some b1 ∧ sh σ3 x1 = (1, 6) ∧ PW d M_Message_writeOn 0 [.ref x1, .ref b1, .int x2, .int x3, uu] [] σ3 (kV (fun σ4 => sh σ4 x0 = (1, 5) ∧ PW d M_Outlet_beginAnew 0 [.ref x0] [] σ4 (kV (fun σ5 => K (.inl none) σ5) K)) K)))))) : PW (d + 1) M_Outlet_start 0 [.ref x0, .ref x1, .int x2, .int x3] [] σ K := by
  refine pw_aload_n dc_Outlet_start_0 rfl rfl ?_
  refine pw_aload_n dc_Outlet_start_1 rfl rfl ?_
  obtain ⟨hs1, h⟩ := h
  have h := h _ rfl
  refine pw_putR (c := 5) (k := 4) (f := 324) (v := some x1) dc_Outlet_start_2 fl_Outlet_33 (Or.inl rfl) rfl rfl hs1 ?_
  refine pw_aload_n dc_Outlet_start_5 rfl rfl ?_
  refine pw_iload_n dc_Outlet_start_6 rfl ?_
  obtain ⟨hs2, h⟩ := h
  have h := h _ rfl
  refine pw_putI (c := 5) (k := 5) (f := 325) dc_Outlet_start_7 fl_Outlet_64 (Or.inl rfl) rfl rfl hs2 ?_
  refine pw_aload_n dc_Outlet_start_10 rfl rfl ?_
  refine pw_iload_n dc_Outlet_start_11 rfl ?_
  obtain ⟨hs3, h⟩ := h
  obtain ⟨hz1, h⟩ := h
  have h := h _ rfl
  refine pw_putZ (c := 5) (k := 6) (f := 326) dc_Outlet_start_12 fl_Outlet_67 (Or.inl rfl) rfl rfl hs3 hz1 ?_
  refine pw_aload_n dc_Outlet_start_15 rfl rfl ?_
  refine pw_aload_n dc_Outlet_start_16 rfl rfl ?_
  obtain ⟨hs4, h⟩ := h
  refine pw_getR (c := 5) (k := 1) (f := 321) dc_Outlet_start_17 fl_Outlet_14 rfl rfl hs4 ?_
  obtain ⟨b1, hb1, h⟩ := h
  refine PW.top (v' := .ref b1) (congrArg va_rf hb1) ?_
  refine pw_iload_n dc_Outlet_start_20 rfl ?_
  refine pw_iload_n dc_Outlet_start_21 rfl ?_
  obtain ⟨hs5, h⟩ := h
  refine pw_callV (vs := [.ref b1, .int x2, .int x3]) (st := []) (b := x1) (cn := 6) dc_Outlet_start_22 cq_Message_writeOn (List.mem_of_getElem? (i := 790) (by decide +kernel)) (List.mem_of_getElem? (i := 791) (by decide +kernel)) (List.mem_of_getElem? (i := 789) (by decide +kernel)) rfl hs5 rfl rfl (by decide) (cat_cons rfl (cat_cons rfl (cat_cons rfl (cat_nil)))) (Nat.le_of_ble_eq_true rfl) (PW.mono (kV_kN (fun σ4 h => ?_)) h)
  refine pw_aload_n dc_Outlet_start_25 rfl rfl ?_
  obtain ⟨hs6, h⟩ := h
  refine pw_callV (vs := []) (st := []) (b := x0) (cn := 5) dc_Outlet_start_26 cq_Outlet_beginAnew (List.mem_of_getElem? (i := 378) (by decide +kernel)) (List.mem_of_getElem? (i := 379) (by decide +kernel)) (List.mem_of_getElem? (i := 807) (by decide +kernel)) rfl hs6 rfl rfl (by decide) (cat_nil) (Nat.le_of_ble_eq_true rfl) (PW.mono (kV_kN (fun σ5 h => ?_)) h)
  exact pw_vret dc_Outlet_start_29 rfl h
theorem dc_Outlet_nextSign_0 : decode M_Outlet_nextSign.2.1 0 = .ok (.aload_n 0, 1) := by decide +kernel
theorem dc_Outlet_nextSign_1 : decode M_Outlet_nextSign.2.1 1 = .ok (.getfield 33, 3) := by decide +kernel
theorem dc_Outlet_nextSign_4 : decode M_Outlet_nextSign.2.1 4 = .ok (.ifnonnull 5, 3) := by decide +kernel
theorem dc_Outlet_nextSign_7 : decode M_Outlet_nextSign.2.1 7 = .ok (.iconst (-1), 1) := by decide +kernel
theorem dc_Outlet_nextSign_8 : decode M_Outlet_nextSign.2.1 8 = .ok (.ireturn, 1) := by decide +kernel
theorem dc_Outlet_nextSign_9 : decode M_Outlet_nextSign.2.1 9 = .ok (.aload_n 0, 1) := by decide +kernel
theorem dc_Outlet_nextSign_10 : decode M_Outlet_nextSign.2.1 10 = .ok (.getfield 14, 3) := by decide +kernel
theorem dc_Outlet_nextSign_13 : decode M_Outlet_nextSign.2.1 13 = .ok (.aload_n 0, 1) := by decide +kernel
theorem dc_Outlet_nextSign_14 : decode M_Outlet_nextSign.2.1 14 = .ok (.getfield 37, 3) := by decide +kernel
theorem dc_Outlet_nextSign_17 : decode M_Outlet_nextSign.2.1 17 = .ok (.invokevirtual 77, 3) := by decide +kernel
theorem dc_Outlet_nextSign_20 : decode M_Outlet_nextSign.2.1 20 = .ok (.istore_n 1, 1) := by decide +kernel
theorem dc_Outlet_nextSign_21 : decode M_Outlet_nextSign.2.1 21 = .ok (.iload_n 1, 1) := by decide +kernel
theorem dc_Outlet_nextSign_22 : decode M_Outlet_nextSign.2.1 22 = .ok (.invokestatic 81, 3) := by decide +kernel
theorem dc_Outlet_nextSign_25 : decode M_Outlet_nextSign.2.1 25 = .ok (.istore_n 2, 1) := by decide +kernel
theorem dc_Outlet_nextSign_26 : decode M_Outlet_nextSign.2.1 26 = .ok (.iload_n 1, 1) := by decide +kernel
theorem dc_Outlet_nextSign_27 : decode M_Outlet_nextSign.2.1 27 = .ok (.invokestatic 87, 3) := by decide +kernel
theorem dc_Outlet_nextSign_30 : decode M_Outlet_nextSign.2.1 30 = .ok (.ifCond .ne 39, 3) := by decide +kernel
theorem dc_Outlet_nextSign_33 : decode M_Outlet_nextSign.2.1 33 = .ok (.iload_n 2, 1) := by decide +kernel
theorem dc_Outlet_nextSign_34 : decode M_Outlet_nextSign.2.1 34 = .ok (.aload_n 0, 1) := by decide +kernel
theorem dc_Outlet_nextSign_35 : decode M_Outlet_nextSign.2.1 35 = .ok (.getfield 40, 3) := by decide +kernel
theorem dc_Outlet_nextSign_38 : decode M_Outlet_nextSign.2.1 38 = .ok (.if_icmp .ne 31, 3) := by decide +kernel
theorem dc_Outlet_nextSign_41 : decode M_Outlet_nextSign.2.1 41 = .ok (.aload_n 0, 1) := by decide +kernel
theorem dc_Outlet_nextSign_42 : decode M_Outlet_nextSign.2.1 42 = .ok (.iload_n 2, 1) := by decide +kernel
theorem dc_Outlet_nextSign_43 : decode M_Outlet_nextSign.2.1 43 = .ok (.ifCond .ne 7, 3) := by decide +kernel
theorem dc_Outlet_nextSign_46 : decode M_Outlet_nextSign.2.1 46 = .ok (.iconst 1, 1) := by decide +kernel
theorem dc_Outlet_nextSign_47 : decode M_Outlet_nextSign.2.1 47 = .ok (.goto 4, 3) := by decide +kernel
theorem dc_Outlet_nextSign_50 : decode M_Outlet_nextSign.2.1 50 = .ok (.iconst 0, 1) := by decide +kernel
theorem dc_Outlet_nextSign_51 : decode M_Outlet_nextSign.2.1 51 = .ok (.putfield 40, 3) := by decide +kernel
theorem dc_Outlet_nextSign_54 : decode M_Outlet_nextSign.2.1 54 = .ok (.aload_n 0, 1) := by decide +kernel
theorem dc_Outlet_nextSign_55 : decode M_Outlet_nextSign.2.1 55 = .ok (.getfield 40, 3) := by decide +kernel
theorem dc_Outlet_nextSign_58 : decode M_Outlet_nextSign.2.1 58 = .ok (.ifCond .eq 8, 3) := by decide +kernel
theorem dc_Outlet_nextSign_61 : decode M_Outlet_nextSign.2.1 61 = .ok (.bipush 29, 2) := by decide +kernel
theorem dc_Outlet_nextSign_63 : decode M_Outlet_nextSign.2.1 63 = .ok (.goto 5, 3) := by decide +kernel
theorem dc_Outlet_nextSign_66 : decode M_Outlet_nextSign.2.1 66 = .ok (.bipush 28, 2) := by decide +kernel
theorem dc_Outlet_nextSign_68 : decode M_Outlet_nextSign.2.1 68 = .ok (.ireturn, 1) := by decide +kernel
theorem dc_Outlet_nextSign_69 : decode M_Outlet_nextSign.2.1 69 = .ok (.aload_n 0, 1) := by decide +kernel
theorem dc_Outlet_nextSign_70 : decode M_Outlet_nextSign.2.1 70 = .ok (.dup, 1) := by decide +kernel
theorem dc_Outlet_nextSign_71 : decode M_Outlet_nextSign.2.1 71 = .ok (.getfield 37, 3) := by decide +kernel
theorem dc_Outlet_nextSign_74 : decode M_Outlet_nextSign.2.1 74 = .ok (.iconst 1, 1) := by decide +kernel
theorem dc_Outlet_nextSign_75 : decode M_Outlet_nextSign.2.1 75 = .ok (.iadd, 1) := by decide +kernel
theorem dc_Outlet_nextSign_76 : decode M_Outlet_nextSign.2.1 76 = .ok (.putfield 37, 3) := by decide +kernel
theorem dc_Outlet_nextSign_79 : decode M_Outlet_nextSign.2.1 79 = .ok (.aload_n 0, 1) := by decide +kernel
theorem dc_Outlet_nextSign_80 : decode M_Outlet_nextSign.2.1 80 = .ok (.getfield 37, 3) := by decide +kernel
theorem dc_Outlet_nextSign_83 : decode M_Outlet_nextSign.2.1 83 = .ok (.aload_n 0, 1) := by decide +kernel
theorem dc_Outlet_nextSign_84 : decode M_Outlet_nextSign.2.1 84 = .ok (.getfield 14, 3) := by decide +kernel
theorem dc_Outlet_nextSign_87 : decode M_Outlet_nextSign.2.1 87 = .ok (.getfield 90, 3) := by decide +kernel
theorem dc_Outlet_nextSign_90 : decode M_Outlet_nextSign.2.1 90 = .ok (.if_icmp .lt 7, 3) := by decide +kernel
theorem dc_Outlet_nextSign_93 : decode M_Outlet_nextSign.2.1 93 = .ok (.aload_n 0, 1) := by decide +kernel
theorem dc_Outlet_nextSign_94 : decode M_Outlet_nextSign.2.1 94 = .ok (.invokevirtual 93, 3) := by decide +kernel
theorem dc_Outlet_nextSign_97 : decode M_Outlet_nextSign.2.1 97 = .ok (.iload_n 1, 1) := by decide +kernel
theorem dc_Outlet_nextSign_98 : decode M_Outlet_nextSign.2.1 98 = .ok (.invokestatic 96, 3) := by decide +kernel
theorem dc_Outlet_nextSign_101 : decode M_Outlet_nextSign.2.1 101 = .ok (.ireturn, 1) := by decide +kernel
set_option maxRecDepth 20000 in
theorem e_Outlet_nextSign_0 {d : Nat} {σ : PH} {K : PO → PH → Prop} (x0 : Nat) (h : sh σ x0 = (1, 5) ∧ (if gR σ 324 x0 = none then K (.inl (some (.int ((-1))))) σ else (∃ b1 : Nat, gR σ 321 x0 = some b1 ∧ sh σ b1 = (1, 3) ∧ PW d M_Text_at 0 [.ref b1, .int (gI σ 322 x0)] [] σ (kI (fun r1 σ1 => PW d M_Signs_isLetter 0 [.int r1] [] σ1 (kI (fun r2 σ2 => PW d M_Signs_isInBothShifts 0 [.int r1] [] σ2 (kI (fun r3 σ3 => (if r3 = 0 then sh σ3 x0 = (1, 5) ∧ (if r2 = (gI σ3 323 x0) then (if r2 = 0 then PW (d + 1) M_Outlet_nextSign 51 [.ref x0, uu, uu] [.int 1, .ref x0] σ3 K else PW (d + 1) M_Outlet_nextSign 51 [.ref x0, uu, uu] [.int 0, .ref x0] σ3 K) else PW (d + 1) M_Outlet_nextSign 69 [.ref x0, .int r1, uu] [] σ3 K) else PW (d + 1) M_Outlet_nextSign 69 [.ref x0, .int r1, uu] [] σ3 K)) K)) K)) K)))) : PW (d + 1) M_Outlet_nextSign 0 [.ref x0, uu, uu] [] σ K := by
  refine pw_aload_n dc_Outlet_nextSign_0 rfl rfl ?_
  obtain ⟨hs1, h⟩ := h
  refine pw_getR (c := 5) (k := 4) (f := 324) dc_Outlet_nextSign_1 fl_Outlet_33 rfl rfl hs1 ?_
  refine pw_ifnonnull (v := gR σ 324 x0) (tgt := 9) dc_Outlet_nextSign_4 (by decide) (fun hc => ?_) (fun hc => ?_)
  · have h := ite_f h hc
    refine pw_aload_n dc_Outlet_nextSign_9 rfl rfl ?_
    refine pw_getR (c := 5) (k := 1) (f := 321) dc_Outlet_nextSign_10 fl_Outlet_14 rfl rfl hs1 ?_
    obtain ⟨b1, hb1, h⟩ := h
    refine PW.top (v' := .ref b1) (congrArg va_rf hb1) ?_
    refine pw_aload_n dc_Outlet_nextSign_13 rfl rfl ?_
    refine pw_getI (c := 5) (k := 2) (f := 322) dc_Outlet_nextSign_14 fl_Outlet_37 rfl rfl hs1 ?_
    obtain ⟨hs2, h⟩ := h
    refine pw_callV (vs := [.int (gI σ 322 x0)]) (st := []) (b := b1) (cn := 3) dc_Outlet_nextSign_17 cq_Text_at (List.mem_of_getElem? (i := 563) (by decide +kernel)) (List.mem_of_getElem? (i := 564) (by decide +kernel)) (List.mem_of_getElem? (i := 825) (by decide +kernel)) rfl hs2 rfl rfl (by decide) (cat_cons rfl (cat_nil)) (Nat.le_of_ble_eq_true rfl) (PW.mono (kI_kN (fun r1 σ1 h => ?_)) h)
    refine pw_istore_n dc_Outlet_nextSign_20 (by decide) ?_
    refine pw_iload_n dc_Outlet_nextSign_21 rfl ?_
    refine pw_callS (vs := [.int r1]) (st := []) dc_Outlet_nextSign_22 cq_Signs_isLetter (List.mem_of_getElem? (i := 590) (by decide +kernel)) (List.mem_of_getElem? (i := 826) (by decide +kernel)) rfl rfl (cat_cons rfl (cat_nil)) (Nat.le_of_ble_eq_true rfl) (PW.mono (kI_kN (fun r2 σ2 h => ?_)) h)
    refine pw_istore_n dc_Outlet_nextSign_25 (by decide) ?_
    refine pw_iload_n dc_Outlet_nextSign_26 rfl ?_
    refine pw_callS (vs := [.int r1]) (st := []) dc_Outlet_nextSign_27 cq_Signs_isInBothShifts (List.mem_of_getElem? (i := 828) (by decide +kernel)) (List.mem_of_getElem? (i := 827) (by decide +kernel)) rfl rfl (cat_cons rfl (cat_nil)) (Nat.le_of_ble_eq_true rfl) (PW.mono (kI_kN (fun r3 σ3 h => ?_)) h)
    refine pw_if_ne (tgt := 69) dc_Outlet_nextSign_30 (by decide) (fun hc => ?_) (fun hc => ?_)
    · have h := ite_f h hc
      refine PW.drop (ls' := [.ref x0, .int r1, uu]) ⟨Or.inl rfl, Or.inl rfl, Or.inr rfl, trivial⟩ ?_
      exact h
    · have h := ite_t h hc
      refine pw_iload_n dc_Outlet_nextSign_33 rfl ?_
      refine pw_aload_n dc_Outlet_nextSign_34 rfl rfl ?_
      obtain ⟨hs3, h⟩ := h
      refine pw_getI (c := 5) (k := 3) (f := 323) dc_Outlet_nextSign_35 fl_Outlet_40 rfl rfl hs3 ?_
      refine pw_icmp_ne (tgt := 69) dc_Outlet_nextSign_38 (by decide) (fun hc => ?_) (fun hc => ?_)
      · have h := ite_f h hc
        refine PW.drop (ls' := [.ref x0, .int r1, uu]) ⟨Or.inl rfl, Or.inl rfl, Or.inr rfl, trivial⟩ ?_
        exact h
      · have h := ite_t h hc
        refine pw_aload_n dc_Outlet_nextSign_41 rfl rfl ?_
        refine pw_iload_n dc_Outlet_nextSign_42 rfl ?_
        refine pw_if_ne (tgt := 50) dc_Outlet_nextSign_43 (by decide) (fun hc => ?_) (fun hc => ?_)
        · have h := ite_f h hc
          refine pw_iconst (v := 0) dc_Outlet_nextSign_50 (by decide) ?_
          refine PW.drop (ls' := [.ref x0, uu, uu]) ⟨Or.inl rfl, Or.inr rfl, Or.inr rfl, trivial⟩ ?_
          exact h
        · have h := ite_t h hc
          refine pw_iconst (v := 1) dc_Outlet_nextSign_46 (by decide) ?_
          refine pw_goto (tgt := 51) dc_Outlet_nextSign_47 (by decide) ?_
          refine PW.drop (ls' := [.ref x0, uu, uu]) ⟨Or.inl rfl, Or.inr rfl, Or.inr rfl, trivial⟩ ?_
          exact h
  · have h := ite_t h hc
    refine pw_iconst (v := (-1)) dc_Outlet_nextSign_7 (by decide) ?_
    exact pw_iret dc_Outlet_nextSign_8 rfl rfl h
set_option maxRecDepth 20000 in
theorem e_Outlet_nextSign_51 {d : Nat} {σ : PH} {K : PO → PH → Prop} (x0 : Nat) (y0 : Int32) (y1 : Nat) (h : sh σ y1 = (1, 5) ∧ bo y0 ∧ (∀ σ1 : PH, σ1 = pI σ 323 y1 y0 → sh σ1 x0 = (1, 5) ∧ (if (gI σ1 323 x0) = 0 then K (.inl (some (.int 28))) σ1 else K (.inl (some (.int 29))) σ1))) : PW (d + 1) M_Outlet_nextSign 51 [.ref x0, uu, uu] [.int y0, .ref y1] σ K := by
  obtain ⟨hs1, h⟩ := h
  obtain ⟨hz1, h⟩ := h
  have h := h _ rfl
  refine pw_putZ (c := 5) (k := 3) (f := 323) dc_Outlet_nextSign_51 fl_Outlet_40 (Or.inl rfl) rfl rfl hs1 hz1 ?_
  refine pw_aload_n dc_Outlet_nextSign_54 rfl rfl ?_
  obtain ⟨hs2, h⟩ := h
  refine pw_getI (c := 5) (k := 3) (f := 323) dc_Outlet_nextSign_55 fl_Outlet_40 rfl rfl hs2 ?_
  refine pw_if_eq (tgt := 66) dc_Outlet_nextSign_58 (by decide) (fun hc => ?_) (fun hc => ?_)
  · have h := ite_t h hc
    refine pw_bipush (v := 28) dc_Outlet_nextSign_66 (by decide) ?_
    exact pw_iret dc_Outlet_nextSign_68 rfl rfl h
  · have h := ite_f h hc
    refine pw_bipush (v := 29) dc_Outlet_nextSign_61 (by decide) ?_
    refine pw_goto (tgt := 68) dc_Outlet_nextSign_63 (by decide) ?_
    exact pw_iret dc_Outlet_nextSign_68 rfl rfl h
set_option maxRecDepth 20000 in
theorem e_Outlet_nextSign_69 {d : Nat} {σ : PH} {K : PO → PH → Prop} (x0 : Nat) (x1 : Int32) (h : sh σ x0 = (1, 5) ∧ (∀ σ1 : PH, σ1 = pI σ 322 x0 ((gI σ 322 x0) + 1) → sh σ1 x0 = (1, 5) ∧ (∃ b1 : Nat, gR σ1 321 x0 = some b1 ∧ sh σ1 b1 = (1, 3) ∧ (if (gI σ1 322 x0) < (gI σ1 193 b1) then PW d M_Signs_signOf 0 [.int x1] [] σ1 (kI (fun r1 σ2 => K (.inl (some (.int r1))) σ2) K) else PW d M_Outlet_finish 0 [.ref x0, uu] [] σ1 (kV (fun σ3 => PW d M_Signs_signOf 0 [.int x1] [] σ3 (kI (fun r2 σ4 => K (.inl (some (.int r2))) σ4) K)) K))))) : PW (d + 1) M_Outlet_nextSign 69 [.ref x0, .int x1, uu] [] σ K := by
  refine pw_aload_n dc_Outlet_nextSign_69 rfl rfl ?_
  refine pw_dup dc_Outlet_nextSign_70 rfl ?_
  obtain ⟨hs1, h⟩ := h
  refine pw_getI (c := 5) (k := 2) (f := 322) dc_Outlet_nextSign_71 fl_Outlet_37 rfl rfl hs1 ?_
  refine pw_iconst (v := 1) dc_Outlet_nextSign_74 (by decide) ?_
  refine pw_iadd dc_Outlet_nextSign_75 ?_
  have h := h _ rfl
  refine pw_putI (c := 5) (k := 2) (f := 322) dc_Outlet_nextSign_76 fl_Outlet_37 (Or.inl rfl) rfl rfl hs1 ?_
  refine pw_aload_n dc_Outlet_nextSign_79 rfl rfl ?_
  obtain ⟨hs2, h⟩ := h
  refine pw_getI (c := 5) (k := 2) (f := 322) dc_Outlet_nextSign_80 fl_Outlet_37 rfl rfl hs2 ?_
  refine pw_aload_n dc_Outlet_nextSign_83 rfl rfl ?_
  refine pw_getR (c := 5) (k := 1) (f := 321) dc_Outlet_nextSign_84 fl_Outlet_14 rfl rfl hs2 ?_
  obtain ⟨b1, hb1, h⟩ := h
  refine PW.top (v' := .ref b1) (congrArg va_rf hb1) ?_
  obtain ⟨hs3, h⟩ := h
  refine pw_getI (c := 3) (k := 1) (f := 193) dc_Outlet_nextSign_87 fl_Outlet_90 rfl rfl hs3 ?_
  refine pw_icmp_lt (tgt := 97) dc_Outlet_nextSign_90 (by decide) (fun hc => ?_) (fun hc => ?_)
  · have h := ite_t h hc
    refine pw_iload_n dc_Outlet_nextSign_97 rfl ?_
    refine pw_callS (vs := [.int x1]) (st := []) dc_Outlet_nextSign_98 cq_Signs_signOf (List.mem_of_getElem? (i := 835) (by decide +kernel)) (List.mem_of_getElem? (i := 834) (by decide +kernel)) rfl rfl (cat_cons rfl (cat_nil)) (Nat.le_of_ble_eq_true rfl) (PW.mono (kI_kN (fun r1 σ2 h => ?_)) h)
    exact pw_iret dc_Outlet_nextSign_101 rfl rfl h
  · have h := ite_f h hc
    refine pw_aload_n dc_Outlet_nextSign_93 rfl rfl ?_
    refine pw_callV (vs := []) (st := []) (b := x0) (cn := 5) dc_Outlet_nextSign_94 cq_Outlet_finish (List.mem_of_getElem? (i := 832) (by decide +kernel)) (List.mem_of_getElem? (i := 24) (by decide +kernel)) (List.mem_of_getElem? (i := 830) (by decide +kernel)) rfl hs2 rfl rfl (by decide) (cat_nil) (Nat.le_of_ble_eq_true rfl) (PW.mono (kV_kN (fun σ3 h => ?_)) h)
    refine pw_iload_n dc_Outlet_nextSign_97 rfl ?_
    refine pw_callS (vs := [.int x1]) (st := []) dc_Outlet_nextSign_98 cq_Signs_signOf (List.mem_of_getElem? (i := 835) (by decide +kernel)) (List.mem_of_getElem? (i := 834) (by decide +kernel)) rfl rfl (cat_cons rfl (cat_nil)) (Nat.le_of_ble_eq_true rfl) (PW.mono (kI_kN (fun r2 σ4 h => ?_)) h)
    exact pw_iret dc_Outlet_nextSign_101 rfl rfl h
theorem dc_Outlet_finish_0 : decode M_Outlet_finish.2.1 0 = .ok (.aload_n 0, 1) := by decide +kernel
theorem dc_Outlet_finish_1 : decode M_Outlet_finish.2.1 1 = .ok (.getfield 67, 3) := by decide +kernel
theorem dc_Outlet_finish_4 : decode M_Outlet_finish.2.1 4 = .ok (.ifCond .ne 62, 3) := by decide +kernel
theorem dc_Outlet_finish_7 : decode M_Outlet_finish.2.1 7 = .ok (.aload_n 0, 1) := by decide +kernel
theorem dc_Outlet_finish_8 : decode M_Outlet_finish.2.1 8 = .ok (.getfield 33, 3) := by decide +kernel
theorem dc_Outlet_finish_11 : decode M_Outlet_finish.2.1 11 = .ok (.ifnull 55, 3) := by decide +kernel
theorem dc_Outlet_finish_14 : decode M_Outlet_finish.2.1 14 = .ok (.aload_n 0, 1) := by decide +kernel
theorem dc_Outlet_finish_15 : decode M_Outlet_finish.2.1 15 = .ok (.getfield 33, 3) := by decide +kernel
theorem dc_Outlet_finish_18 : decode M_Outlet_finish.2.1 18 = .ok (.getfield 44, 3) := by decide +kernel
theorem dc_Outlet_finish_21 : decode M_Outlet_finish.2.1 21 = .ok (.aload_n 0, 1) := by decide +kernel
theorem dc_Outlet_finish_22 : decode M_Outlet_finish.2.1 22 = .ok (.getfield 29, 3) := by decide +kernel
theorem dc_Outlet_finish_25 : decode M_Outlet_finish.2.1 25 = .ok (.aload_n 0, 1) := by decide +kernel
theorem dc_Outlet_finish_26 : decode M_Outlet_finish.2.1 26 = .ok (.getfield 64, 3) := by decide +kernel
theorem dc_Outlet_finish_29 : decode M_Outlet_finish.2.1 29 = .ok (.iastore, 1) := by decide +kernel
theorem dc_Outlet_finish_30 : decode M_Outlet_finish.2.1 30 = .ok (.iconst 2, 1) := by decide +kernel
theorem dc_Outlet_finish_31 : decode M_Outlet_finish.2.1 31 = .ok (.istore_n 1, 1) := by decide +kernel
theorem dc_Outlet_finish_32 : decode M_Outlet_finish.2.1 32 = .ok (.iload_n 1, 1) := by decide +kernel
theorem dc_Outlet_finish_33 : decode M_Outlet_finish.2.1 33 = .ok (.ifCond .le 23, 3) := by decide +kernel
theorem dc_Outlet_finish_36 : decode M_Outlet_finish.2.1 36 = .ok (.aload_n 0, 1) := by decide +kernel
theorem dc_Outlet_finish_37 : decode M_Outlet_finish.2.1 37 = .ok (.getfield 26, 3) := by decide +kernel
theorem dc_Outlet_finish_40 : decode M_Outlet_finish.2.1 40 = .ok (.iload_n 1, 1) := by decide +kernel
theorem dc_Outlet_finish_41 : decode M_Outlet_finish.2.1 41 = .ok (.aload_n 0, 1) := by decide +kernel
theorem dc_Outlet_finish_42 : decode M_Outlet_finish.2.1 42 = .ok (.getfield 26, 3) := by decide +kernel
theorem dc_Outlet_finish_45 : decode M_Outlet_finish.2.1 45 = .ok (.iload_n 1, 1) := by decide +kernel
theorem dc_Outlet_finish_46 : decode M_Outlet_finish.2.1 46 = .ok (.iconst 1, 1) := by decide +kernel
theorem dc_Outlet_finish_47 : decode M_Outlet_finish.2.1 47 = .ok (.isub, 1) := by decide +kernel
theorem dc_Outlet_finish_48 : decode M_Outlet_finish.2.1 48 = .ok (.aaload, 1) := by decide +kernel
theorem dc_Outlet_finish_49 : decode M_Outlet_finish.2.1 49 = .ok (.aastore, 1) := by decide +kernel
theorem dc_Outlet_finish_50 : decode M_Outlet_finish.2.1 50 = .ok (.iinc 1 (-1), 3) := by decide +kernel
theorem dc_Outlet_finish_53 : decode M_Outlet_finish.2.1 53 = .ok (.goto (-21), 3) := by decide +kernel
theorem dc_Outlet_finish_56 : decode M_Outlet_finish.2.1 56 = .ok (.aload_n 0, 1) := by decide +kernel
theorem dc_Outlet_finish_57 : decode M_Outlet_finish.2.1 57 = .ok (.getfield 26, 3) := by decide +kernel
theorem dc_Outlet_finish_60 : decode M_Outlet_finish.2.1 60 = .ok (.iconst 0, 1) := by decide +kernel
theorem dc_Outlet_finish_61 : decode M_Outlet_finish.2.1 61 = .ok (.aload_n 0, 1) := by decide +kernel
theorem dc_Outlet_finish_62 : decode M_Outlet_finish.2.1 62 = .ok (.getfield 33, 3) := by decide +kernel
theorem dc_Outlet_finish_65 : decode M_Outlet_finish.2.1 65 = .ok (.aastore, 1) := by decide +kernel
theorem dc_Outlet_finish_66 : decode M_Outlet_finish.2.1 66 = .ok (.aload_n 0, 1) := by decide +kernel
theorem dc_Outlet_finish_67 : decode M_Outlet_finish.2.1 67 = .ok (.aconst_null, 1) := by decide +kernel
theorem dc_Outlet_finish_68 : decode M_Outlet_finish.2.1 68 = .ok (.putfield 33, 3) := by decide +kernel
theorem dc_Outlet_finish_71 : decode M_Outlet_finish.2.1 71 = .ok (.return_, 1) := by decide +kernel
set_option maxRecDepth 20000 in
theorem e_Outlet_finish_0 {d : Nat} {σ : PH} {K : PO → PH → Prop} (x0 : Nat) (h : sh σ x0 = (1, 5) ∧ (if (gI σ 326 x0) = 0 then (if gR σ 324 x0 = none then (∀ σ2 : PH, σ2 = pR σ 324 x0 none → K (.inl none) σ2) else (∃ b1 : Nat, gR σ 324 x0 = some b1 ∧ sh σ b1 = (1, 6) ∧ (∃ b2 : Nat, gR σ 388 b1 = some b2 ∧ (∃ n1 : Nat, sh σ b2 = (2, n1) ∧ vp_in (gI σ 320 x0) n1 ∧ (∀ σ3 : PH, σ3 = uI σ b2 (ix (gI σ 320 x0)) (gI σ 325 x0) → PW d M_Outlet_finish 32 [.ref x0, .int 2] [] σ3 K))))) else (∀ σ1 : PH, σ1 = pR σ 324 x0 none → K (.inl none) σ1))) : PW d M_Outlet_finish 0 [.ref x0, uu] [] σ K := by
  refine pw_aload_n dc_Outlet_finish_0 rfl rfl ?_
  obtain ⟨hs1, h⟩ := h
  refine pw_getI (c := 5) (k := 6) (f := 326) dc_Outlet_finish_1 fl_Outlet_67 rfl rfl hs1 ?_
  refine pw_if_ne (tgt := 66) dc_Outlet_finish_4 (by decide) (fun hc => ?_) (fun hc => ?_)
  · have h := ite_f h hc
    refine pw_aload_n dc_Outlet_finish_66 rfl rfl ?_
    refine pw_null dc_Outlet_finish_67 ?_
    have h := h _ rfl
    refine pw_putR (c := 5) (k := 4) (f := 324) (v := none) dc_Outlet_finish_68 fl_Outlet_33 (Or.inl rfl) rfl rfl hs1 ?_
    exact pw_vret dc_Outlet_finish_71 rfl h
  · have h := ite_t h hc
    refine pw_aload_n dc_Outlet_finish_7 rfl rfl ?_
    refine pw_getR (c := 5) (k := 4) (f := 324) dc_Outlet_finish_8 fl_Outlet_33 rfl rfl hs1 ?_
    refine pw_ifnull (v := gR σ 324 x0) (tgt := 66) dc_Outlet_finish_11 (by decide) (fun hc => ?_) (fun hc => ?_)
    · have h := ite_t h hc
      refine pw_aload_n dc_Outlet_finish_66 rfl rfl ?_
      refine pw_null dc_Outlet_finish_67 ?_
      have h := h _ rfl
      refine pw_putR (c := 5) (k := 4) (f := 324) (v := none) dc_Outlet_finish_68 fl_Outlet_33 (Or.inl rfl) rfl rfl hs1 ?_
      exact pw_vret dc_Outlet_finish_71 rfl h
    · have h := ite_f h hc
      refine pw_aload_n dc_Outlet_finish_14 rfl rfl ?_
      refine pw_getR (c := 5) (k := 4) (f := 324) dc_Outlet_finish_15 fl_Outlet_33 rfl rfl hs1 ?_
      obtain ⟨b1, hb1, h⟩ := h
      refine PW.top (v' := .ref b1) (congrArg va_rf hb1) ?_
      obtain ⟨hs2, h⟩ := h
      refine pw_getR (c := 6) (k := 4) (f := 388) dc_Outlet_finish_18 fl_Outlet_44 rfl rfl hs2 ?_
      obtain ⟨b2, hb2, h⟩ := h
      refine PW.top (v' := .ref b2) (congrArg va_rf hb2) ?_
      refine pw_aload_n dc_Outlet_finish_21 rfl rfl ?_
      refine pw_getI (c := 5) (k := 0) (f := 320) dc_Outlet_finish_22 fl_Outlet_29 rfl rfl hs1 ?_
      refine pw_aload_n dc_Outlet_finish_25 rfl rfl ?_
      refine pw_getI (c := 5) (k := 5) (f := 325) dc_Outlet_finish_26 fl_Outlet_64 rfl rfl hs1 ?_
      obtain ⟨n1, hs3, h⟩ := h
      obtain ⟨hi1, h⟩ := h
      have h := h _ rfl
      refine pw_iast dc_Outlet_finish_29 hs3 hi1 ?_
      refine pw_iconst (v := 2) dc_Outlet_finish_30 (by decide) ?_
      refine pw_istore_n dc_Outlet_finish_31 (by decide) ?_
      exact h
set_option maxRecDepth 20000 in
theorem e_Outlet_finish_32 {d : Nat} {σ : PH} {K : PO → PH → Prop} (x0 : Nat) (x1 : Int32) (h : (if x1 ≤ 0 then sh σ x0 = (1, 5) ∧ (∃ b1 : Nat, gR σ 330 x0 = some b1 ∧ (∃ n1 : Nat, sh σ b1 = (7, n1) ∧ vp_in 0 n1 ∧ (∀ b : Nat, gR σ 324 x0 = some b → sh σ b = (1, 6)) ∧ (∀ σ1 : PH, σ1 = uR σ b1 (ix 0) (gR σ 324 x0) → sh σ1 x0 = (1, 5) ∧ (∀ σ2 : PH, σ2 = pR σ1 324 x0 none → K (.inl none) σ2)))) else sh σ x0 = (1, 5) ∧ (∃ b2 : Nat, gR σ 330 x0 = some b2 ∧ (∃ n2 : Nat, sh σ b2 = (7, n2) ∧ vp_in (x1 - 1) n2 ∧ vp_in x1 n2 ∧ (∀ b : Nat, eR σ b2 (ix (x1 - 1)) = some b → sh σ b = (1, 6)) ∧ (∀ σ3 : PH, σ3 = uR σ b2 (ix x1) (eR σ b2 (ix (x1 - 1))) → PW d M_Outlet_finish 32 [.ref x0, .int (x1 + (-1))] [] σ3 K))))) : PW d M_Outlet_finish 32 [.ref x0, .int x1] [] σ K := by
  refine pw_iload_n dc_Outlet_finish_32 rfl ?_
  refine pw_if_le (tgt := 56) dc_Outlet_finish_33 (by decide) (fun hc => ?_) (fun hc => ?_)
  · have h := ite_t h hc
    refine pw_aload_n dc_Outlet_finish_56 rfl rfl ?_
    obtain ⟨hs1, h⟩ := h
    refine pw_getR (c := 5) (k := 10) (f := 330) dc_Outlet_finish_57 fl_Outlet_26 rfl rfl hs1 ?_
    obtain ⟨b1, hb1, h⟩ := h
    refine PW.top (v' := .ref b1) (congrArg va_rf hb1) ?_
    refine pw_iconst (v := 0) dc_Outlet_finish_60 (by decide) ?_
    refine pw_aload_n dc_Outlet_finish_61 rfl rfl ?_
    refine pw_getR (c := 5) (k := 4) (f := 324) dc_Outlet_finish_62 fl_Outlet_33 rfl rfl hs1 ?_
    obtain ⟨n1, hs2, h⟩ := h
    obtain ⟨hi1, h⟩ := h
    obtain ⟨hv1, h⟩ := h
    have h := h _ rfl
    refine pw_aast (k := 7) (v := gR σ 324 x0) dc_Outlet_finish_65 (by unfold rk; decide) hs2 hi1 hv1 ?_
    refine pw_aload_n dc_Outlet_finish_66 rfl rfl ?_
    refine pw_null dc_Outlet_finish_67 ?_
    obtain ⟨hs3, h⟩ := h
    have h := h _ rfl
    refine pw_putR (c := 5) (k := 4) (f := 324) (v := none) dc_Outlet_finish_68 fl_Outlet_33 (Or.inl rfl) rfl rfl hs3 ?_
    exact pw_vret dc_Outlet_finish_71 rfl h
  · have h := ite_f h hc
    refine pw_aload_n dc_Outlet_finish_36 rfl rfl ?_
    obtain ⟨hs4, h⟩ := h
    refine pw_getR (c := 5) (k := 10) (f := 330) dc_Outlet_finish_37 fl_Outlet_26 rfl rfl hs4 ?_
    obtain ⟨b2, hb2, h⟩ := h
    refine PW.top (v' := .ref b2) (congrArg va_rf hb2) ?_
    refine pw_iload_n dc_Outlet_finish_40 rfl ?_
    refine pw_aload_n dc_Outlet_finish_41 rfl rfl ?_
    refine pw_getR (c := 5) (k := 10) (f := 330) dc_Outlet_finish_42 fl_Outlet_26 rfl rfl hs4 ?_
    refine PW.top (v' := .ref b2) (congrArg va_rf hb2) ?_
    refine pw_iload_n dc_Outlet_finish_45 rfl ?_
    refine pw_iconst (v := 1) dc_Outlet_finish_46 (by decide) ?_
    refine pw_isub dc_Outlet_finish_47 ?_
    obtain ⟨n2, hs5, h⟩ := h
    obtain ⟨hi2, h⟩ := h
    refine pw_aald (k := 7) dc_Outlet_finish_48 (by unfold rk; decide) hs5 hi2 ?_
    obtain ⟨hi3, h⟩ := h
    obtain ⟨hv2, h⟩ := h
    have h := h _ rfl
    refine pw_aast (k := 7) (v := eR σ b2 (ix (x1 - 1))) dc_Outlet_finish_49 (by unfold rk; decide) hs5 hi3 hv2 ?_
    refine pw_iincv (v := (-1)) dc_Outlet_finish_50 (by decide) rfl (by decide) ?_
    refine pw_goto (tgt := 32) dc_Outlet_finish_53 (by decide) ?_
    exact h
