theorem fl_Case_14 : FL "RelayDesk$Case" 14 7 1 := ⟨by decide, by decide, Or.inl (List.mem_of_getElem? (i := 332) (by decide +kernel))⟩
theorem fl_Case_20 : FL "RelayDesk$Case" 20 7 0 := ⟨by decide, by decide, Or.inl (List.mem_of_getElem? (i := 330) (by decide +kernel))⟩
theorem fl_Channel_7 : FL "RelayDesk$Channel" 7 1 0 := ⟨by decide, by decide, Or.inl (List.mem_of_getElem? (i := 280) (by decide +kernel))⟩
theorem fl_Channel_16 : FL "RelayDesk$Channel" 16 1 1 := ⟨by decide, by decide, Or.inl (List.mem_of_getElem? (i := 282) (by decide +kernel))⟩
theorem fl_Channel_23 : FL "RelayDesk$Channel" 23 1 2 := ⟨by decide, by decide, Or.inl (List.mem_of_getElem? (i := 284) (by decide +kernel))⟩
theorem fl_Channel_32 : FL "RelayDesk$Channel" 32 1 3 := ⟨by decide, by decide, Or.inl (List.mem_of_getElem? (i := 286) (by decide +kernel))⟩
theorem fl_Numbers_9 : FL "RelayDesk$Numbers" 9 4 0 := ⟨by decide, by decide, Or.inl (List.mem_of_getElem? (i := 225) (by decide +kernel))⟩
theorem fl_Numbers_15 : FL "RelayDesk$Numbers" 15 4 1 := ⟨by decide, by decide, Or.inl (List.mem_of_getElem? (i := 227) (by decide +kernel))⟩
theorem fl_Numbers_34 : FL "RelayDesk$Numbers" 34 4 2 := ⟨by decide, by decide, Or.inl (List.mem_of_getElem? (i := 228) (by decide +kernel))⟩
theorem fl_Route_9 : FL "RelayDesk$Route" 9 8 3 := ⟨by decide, by decide, Or.inl (List.mem_of_getElem? (i := 115) (by decide +kernel))⟩
theorem fl_Route_15 : FL "RelayDesk$Route" 15 8 4 := ⟨by decide, by decide, Or.inl (List.mem_of_getElem? (i := 117) (by decide +kernel))⟩
theorem dc_Case_init_0 : decode M_Case_init.2.1 0 = .ok (.aload_n 0, 1) := by decide +kernel
theorem dc_Case_init_1 : decode M_Case_init.2.1 1 = .ok (.invokespecial 3, 3) := by decide +kernel
theorem dc_Case_init_4 : decode M_Case_init.2.1 4 = .ok (.aload_n 0, 1) := by decide +kernel
theorem dc_Case_init_5 : decode M_Case_init.2.1 5 = .ok (.new 9, 3) := by decide +kernel
theorem dc_Case_init_8 : decode M_Case_init.2.1 8 = .ok (.dup, 1) := by decide +kernel
theorem dc_Case_init_9 : decode M_Case_init.2.1 9 = .ok (.bipush 60, 2) := by decide +kernel
theorem dc_Case_init_11 : decode M_Case_init.2.1 11 = .ok (.invokespecial 11, 3) := by decide +kernel
theorem dc_Case_init_14 : decode M_Case_init.2.1 14 = .ok (.putfield 14, 3) := by decide +kernel
theorem dc_Case_init_17 : decode M_Case_init.2.1 17 = .ok (.return_, 1) := by decide +kernel
set_option maxRecDepth 20000 in
theorem e_Case_init_0 {d : Nat} {σ : PH} {K : PO → PH → Prop} (x0 : Nat) (h : cc σ + 1 ≤ 601024 ∧ cs σ + 2 ≤ 7293034 ∧ (∀ σ1 : PH, σ1 = mk σ (1, 3) 2 → PW d M_Text_init 0 [.ref (nx σ), .int 60] [] σ1 (kV (fun σ2 => sh σ2 x0 = (1, 7) ∧ (∀ σ3 : PH, σ3 = pR σ2 449 x0 (some (nx σ)) → K (.inl none) σ3)) K))) : PW (d + 1) M_Case_init 0 [.ref x0] [] σ K := by
  refine pw_aload_n dc_Case_init_0 rfl rfl ?_
  refine pw_objInit dc_Case_init_1 (List.mem_of_getElem? (i := 327) (by decide +kernel)) (List.mem_of_getElem? (i := 91) (by decide +kernel)) (List.mem_of_getElem? (i := 92) (by decide +kernel)) (Nat.le_of_ble_eq_true rfl) ?_
  refine pw_aload_n dc_Case_init_4 rfl rfl ?_
  obtain ⟨hr1, hr2, h⟩ := h
  have h := h _ rfl
  refine pw_new (c := 3) dc_Case_init_5 (by decide) (List.mem_of_getElem? (i := 328) (by decide +kernel)) rfl hr1 hr2 ?_
  refine pw_dup dc_Case_init_8 rfl ?_
  refine pw_bipush (v := 60) dc_Case_init_9 (by decide) ?_
  refine pw_callI (vs := [.int 60]) (st := [.ref (nx σ), .ref x0]) (b := (nx σ)) dc_Case_init_11 cq_Text_init rfl rfl (List.mem_of_getElem? (i := 190) (by decide +kernel)) (List.mem_of_getElem? (i := 189) (by decide +kernel)) (Or.inl (List.mem_of_getElem? (i := 329) (by decide +kernel))) rfl rfl (by decide) (cat_cons rfl (cat_nil)) (Nat.le_of_ble_eq_true rfl) (PW.mono (kV_kN (fun σ2 h => ?_)) h)
  obtain ⟨hs1, h⟩ := h
  have h := h _ rfl
  refine pw_putR (c := 7) (k := 1) (f := 449) (v := some (nx σ)) dc_Case_init_14 fl_Case_14 (Or.inr ⟨rfl, rfl, rfl, List.mem_of_getElem? (i := 332) (by decide +kernel)⟩) rfl rfl hs1 ?_
  exact pw_vret dc_Case_init_17 rfl h
theorem dc_Case_isClosed_0 : decode M_Case_isClosed.2.1 0 = .ok (.aload_n 0, 1) := by decide +kernel
theorem dc_Case_isClosed_1 : decode M_Case_isClosed.2.1 1 = .ok (.getfield 20, 3) := by decide +kernel
theorem dc_Case_isClosed_4 : decode M_Case_isClosed.2.1 4 = .ok (.ifCond .ne 7, 3) := by decide +kernel
theorem dc_Case_isClosed_7 : decode M_Case_isClosed.2.1 7 = .ok (.iconst 1, 1) := by decide +kernel
theorem dc_Case_isClosed_8 : decode M_Case_isClosed.2.1 8 = .ok (.goto 4, 3) := by decide +kernel
theorem dc_Case_isClosed_11 : decode M_Case_isClosed.2.1 11 = .ok (.iconst 0, 1) := by decide +kernel
theorem dc_Case_isClosed_12 : decode M_Case_isClosed.2.1 12 = .ok (.ireturn, 1) := by decide +kernel
set_option maxRecDepth 20000 in
theorem e_Case_isClosed_0 {d : Nat} {σ : PH} {K : PO → PH → Prop} (x0 : Nat) (h : sh σ x0 = (1, 7) ∧ (if (gI σ 448 x0) = 0 then K (.inl (some (.int 1))) σ else K (.inl (some (.int 0))) σ)) : PW d M_Case_isClosed 0 [.ref x0] [] σ K := by
  refine pw_aload_n dc_Case_isClosed_0 rfl rfl ?_
  obtain ⟨hs1, h⟩ := h
  refine pw_getI (c := 7) (k := 0) (f := 448) dc_Case_isClosed_1 fl_Case_20 rfl rfl hs1 ?_
  refine pw_if_ne (tgt := 11) dc_Case_isClosed_4 (by decide) (fun hc => ?_) (fun hc => ?_)
  · have h := ite_f h hc
    refine pw_iconst (v := 0) dc_Case_isClosed_11 (by decide) ?_
    exact pw_iret dc_Case_isClosed_12 rfl (bo_nar (Or.inl rfl)) h
  · have h := ite_t h hc
    refine pw_iconst (v := 1) dc_Case_isClosed_7 (by decide) ?_
    refine pw_goto (tgt := 12) dc_Case_isClosed_8 (by decide) ?_
    exact pw_iret dc_Case_isClosed_12 rfl (bo_nar (Or.inr rfl)) h
theorem dc_Channel_init_0 : decode M_Channel_init.2.1 0 = .ok (.aload_n 0, 1) := by decide +kernel
theorem dc_Channel_init_1 : decode M_Channel_init.2.1 1 = .ok (.invokespecial 1, 3) := by decide +kernel
theorem dc_Channel_init_4 : decode M_Channel_init.2.1 4 = .ok (.aload_n 0, 1) := by decide +kernel
theorem dc_Channel_init_5 : decode M_Channel_init.2.1 5 = .ok (.iconst 1, 1) := by decide +kernel
theorem dc_Channel_init_6 : decode M_Channel_init.2.1 6 = .ok (.putfield 7, 3) := by decide +kernel
theorem dc_Channel_init_9 : decode M_Channel_init.2.1 9 = .ok (.aload_n 0, 1) := by decide +kernel
theorem dc_Channel_init_10 : decode M_Channel_init.2.1 10 = .ok (.new 13, 3) := by decide +kernel
theorem dc_Channel_init_13 : decode M_Channel_init.2.1 13 = .ok (.dup, 1) := by decide +kernel
theorem dc_Channel_init_14 : decode M_Channel_init.2.1 14 = .ok (.invokespecial 15, 3) := by decide +kernel
theorem dc_Channel_init_17 : decode M_Channel_init.2.1 17 = .ok (.putfield 16, 3) := by decide +kernel
theorem dc_Channel_init_20 : decode M_Channel_init.2.1 20 = .ok (.aload_n 0, 1) := by decide +kernel
theorem dc_Channel_init_21 : decode M_Channel_init.2.1 21 = .ok (.new 20, 3) := by decide +kernel
theorem dc_Channel_init_24 : decode M_Channel_init.2.1 24 = .ok (.dup, 1) := by decide +kernel
theorem dc_Channel_init_25 : decode M_Channel_init.2.1 25 = .ok (.invokespecial 22, 3) := by decide +kernel
theorem dc_Channel_init_28 : decode M_Channel_init.2.1 28 = .ok (.putfield 23, 3) := by decide +kernel
theorem dc_Channel_init_31 : decode M_Channel_init.2.1 31 = .ok (.aload_n 0, 1) := by decide +kernel
theorem dc_Channel_init_32 : decode M_Channel_init.2.1 32 = .ok (.new 27, 3) := by decide +kernel
theorem dc_Channel_init_35 : decode M_Channel_init.2.1 35 = .ok (.dup, 1) := by decide +kernel
theorem dc_Channel_init_36 : decode M_Channel_init.2.1 36 = .ok (.iload_n 1, 1) := by decide +kernel
theorem dc_Channel_init_37 : decode M_Channel_init.2.1 37 = .ok (.invokespecial 29, 3) := by decide +kernel
theorem dc_Channel_init_40 : decode M_Channel_init.2.1 40 = .ok (.putfield 32, 3) := by decide +kernel
theorem dc_Channel_init_43 : decode M_Channel_init.2.1 43 = .ok (.return_, 1) := by decide +kernel
set_option maxRecDepth 20000 in
theorem e_Channel_init_0 {d : Nat} {σ : PH} {K : PO → PH → Prop} (x0 : Nat) (x1 : Int32) (h : sh σ x0 = (1, 1) ∧ (∀ σ1 : PH, σ1 = pI σ 64 x0 1 → cc σ1 + 1 ≤ 601024 ∧ cs σ1 + 5 ≤ 7293034 ∧ (∀ σ2 : PH, σ2 = mk σ1 (1, 2) 5 → PW d M_Intake_init 0 [.ref (nx σ1)] [] σ2 (kV (fun σ3 => sh σ3 x0 = (1, 1) ∧ (∀ σ4 : PH, σ4 = pR σ3 65 x0 (some (nx σ1)) → cc σ4 + 1 ≤ 601024 ∧ cs σ4 + 3 ≤ 7293034 ∧ (∀ σ5 : PH, σ5 = mk σ4 (1, 4) 3 → PW d M_Numbers_init 0 [.ref (nx σ4)] [] σ5 (kV (fun σ6 => sh σ6 x0 = (1, 1) ∧ (∀ σ7 : PH, σ7 = pR σ6 66 x0 (some (nx σ4)) → cc σ7 + 1 ≤ 601024 ∧ cs σ7 + 11 ≤ 7293034 ∧ (∀ σ8 : PH, σ8 = mk σ7 (1, 5) 11 → PW d M_Outlet_init 0 [.ref (nx σ7), .int x1] [] σ8 (kV (fun σ9 => sh σ9 x0 = (1, 1) ∧ (∀ σ10 : PH, σ10 = pR σ9 67 x0 (some (nx σ7)) → K (.inl none) σ10)) K)))) K)))) K)))) : PW (d + 1) M_Channel_init 0 [.ref x0, .int x1] [] σ K := by
  refine pw_aload_n dc_Channel_init_0 rfl rfl ?_
  refine pw_objInit dc_Channel_init_1 (List.mem_of_getElem? (i := 179) (by decide +kernel)) (List.mem_of_getElem? (i := 91) (by decide +kernel)) (List.mem_of_getElem? (i := 92) (by decide +kernel)) (Nat.le_of_ble_eq_true rfl) ?_
  refine pw_aload_n dc_Channel_init_4 rfl rfl ?_
  refine pw_iconst (v := 1) dc_Channel_init_5 (by decide) ?_
  obtain ⟨hs1, h⟩ := h
  have h := h _ rfl
  refine pw_putZ (c := 1) (k := 0) (f := 64) dc_Channel_init_6 fl_Channel_7 (Or.inl rfl) rfl rfl hs1 (Or.inr rfl) ?_
  refine pw_aload_n dc_Channel_init_9 rfl rfl ?_
  obtain ⟨hr1, hr2, h⟩ := h
  have h := h _ rfl
  refine pw_new (c := 2) dc_Channel_init_10 (by decide) (List.mem_of_getElem? (i := 180) (by decide +kernel)) rfl hr1 hr2 ?_
  refine pw_dup dc_Channel_init_13 rfl ?_
  refine pw_callI (vs := []) (st := [.ref _, .ref x0]) (b := _) dc_Channel_init_14 cq_Intake_init rfl rfl (List.mem_of_getElem? (i := 184) (by decide +kernel)) (List.mem_of_getElem? (i := 183) (by decide +kernel)) (Or.inr ⟨"RelayDesk", List.mem_of_getElem? (i := 182) (by decide +kernel)⟩) rfl rfl (by decide) (cat_nil) (Nat.le_of_ble_eq_true rfl) (PW.mono (kV_kN (fun σ3 h => ?_)) h)
  obtain ⟨hs2, h⟩ := h
  have h := h _ rfl
  refine pw_putR (c := 1) (k := 1) (f := 65) (v := some _) dc_Channel_init_17 fl_Channel_16 (Or.inr ⟨rfl, rfl, rfl, List.mem_of_getElem? (i := 282) (by decide +kernel)⟩) rfl rfl hs2 ?_
  refine pw_aload_n dc_Channel_init_20 rfl rfl ?_
  obtain ⟨hr3, hr4, h⟩ := h
  have h := h _ rfl
  refine pw_new (c := 4) dc_Channel_init_21 (by decide) (List.mem_of_getElem? (i := 219) (by decide +kernel)) rfl hr3 hr4 ?_
  refine pw_dup dc_Channel_init_24 rfl ?_
  refine pw_callI (vs := []) (st := [.ref _, .ref x0]) (b := _) dc_Channel_init_25 cq_Numbers_init rfl rfl (List.mem_of_getElem? (i := 223) (by decide +kernel)) (List.mem_of_getElem? (i := 222) (by decide +kernel)) (Or.inr ⟨"RelayDesk", List.mem_of_getElem? (i := 221) (by decide +kernel)⟩) rfl rfl (by decide) (cat_nil) (Nat.le_of_ble_eq_true rfl) (PW.mono (kV_kN (fun σ6 h => ?_)) h)
  obtain ⟨hs3, h⟩ := h
  have h := h _ rfl
  refine pw_putR (c := 1) (k := 2) (f := 66) (v := some _) dc_Channel_init_28 fl_Channel_23 (Or.inr ⟨rfl, rfl, rfl, List.mem_of_getElem? (i := 284) (by decide +kernel)⟩) rfl rfl hs3 ?_
  refine pw_aload_n dc_Channel_init_31 rfl rfl ?_
  obtain ⟨hr5, hr6, h⟩ := h
  have h := h _ rfl
  refine pw_new (c := 5) dc_Channel_init_32 (by decide) (List.mem_of_getElem? (i := 236) (by decide +kernel)) rfl hr5 hr6 ?_
  refine pw_dup dc_Channel_init_35 rfl ?_
  refine pw_iload_n dc_Channel_init_36 rfl ?_
  refine pw_callI (vs := [.int x1]) (st := [.ref _, .ref x0]) (b := _) dc_Channel_init_37 cq_Outlet_init rfl rfl (List.mem_of_getElem? (i := 240) (by decide +kernel)) (List.mem_of_getElem? (i := 239) (by decide +kernel)) (Or.inl (List.mem_of_getElem? (i := 238) (by decide +kernel))) rfl rfl (by decide) (cat_cons rfl (cat_nil)) (Nat.le_of_ble_eq_true rfl) (PW.mono (kV_kN (fun σ9 h => ?_)) h)
  obtain ⟨hs4, h⟩ := h
  have h := h _ rfl
  refine pw_putR (c := 1) (k := 3) (f := 67) (v := some _) dc_Channel_init_40 fl_Channel_32 (Or.inr ⟨rfl, rfl, rfl, List.mem_of_getElem? (i := 286) (by decide +kernel)⟩) rfl rfl hs4 ?_
  exact pw_vret dc_Channel_init_43 rfl h
theorem dc_Channel_loseWhatIsUnderWay_0 : decode M_Channel_loseWhatIsUnderWay.2.1 0 = .ok (.aload_n 0, 1) := by decide +kernel
theorem dc_Channel_loseWhatIsUnderWay_1 : decode M_Channel_loseWhatIsUnderWay.2.1 1 = .ok (.getfield 16, 3) := by decide +kernel
theorem dc_Channel_loseWhatIsUnderWay_4 : decode M_Channel_loseWhatIsUnderWay.2.1 4 = .ok (.invokevirtual 36, 3) := by decide +kernel
theorem dc_Channel_loseWhatIsUnderWay_7 : decode M_Channel_loseWhatIsUnderWay.2.1 7 = .ok (.aload_n 0, 1) := by decide +kernel
theorem dc_Channel_loseWhatIsUnderWay_8 : decode M_Channel_loseWhatIsUnderWay.2.1 8 = .ok (.getfield 32, 3) := by decide +kernel
theorem dc_Channel_loseWhatIsUnderWay_11 : decode M_Channel_loseWhatIsUnderWay.2.1 11 = .ok (.invokevirtual 39, 3) := by decide +kernel
theorem dc_Channel_loseWhatIsUnderWay_14 : decode M_Channel_loseWhatIsUnderWay.2.1 14 = .ok (.return_, 1) := by decide +kernel
set_option maxRecDepth 20000 in
theorem e_Channel_loseWhatIsUnderWay_0 {d : Nat} {σ : PH} {K : PO → PH → Prop} (x0 : Nat) (h : sh σ x0 = (1, 1) ∧ (∃ b1 : Nat, gR σ 65 x0 = some b1 ∧ sh σ b1 = (1, 2) ∧ PW d M_Intake_begin 0 [.ref b1] [] σ (kV (fun σ1 => sh σ1 x0 = (1, 1) ∧ (∃ b2 : Nat, gR σ1 67 x0 = some b2 ∧ sh σ1 b2 = (1, 5) ∧ PW d M_Outlet_beginAnew 0 [.ref b2] [] σ1 (kV (fun σ2 => K (.inl none) σ2) K))) K))) : PW (d + 1) M_Channel_loseWhatIsUnderWay 0 [.ref x0] [] σ K := by
  refine pw_aload_n dc_Channel_loseWhatIsUnderWay_0 rfl rfl ?_
  obtain ⟨hs1, h⟩ := h
  refine pw_getR (c := 1) (k := 1) (f := 65) dc_Channel_loseWhatIsUnderWay_1 fl_Channel_16 rfl rfl hs1 ?_
  obtain ⟨b1, hb1, h⟩ := h
  refine PW.top (v' := .ref b1) (congrArg va_rf hb1) ?_
  obtain ⟨hs2, h⟩ := h
  refine pw_callV (vs := []) (st := []) (b := b1) (cn := 2) dc_Channel_loseWhatIsUnderWay_4 cq_Intake_begin (List.mem_of_getElem? (i := 370) (by decide +kernel)) (List.mem_of_getElem? (i := 371) (by decide +kernel)) (List.mem_of_getElem? (i := 369) (by decide +kernel)) rfl hs2 rfl rfl (by decide) (cat_nil) (Nat.le_of_ble_eq_true rfl) (PW.mono (kV_kN (fun σ1 h => ?_)) h)
  refine pw_aload_n dc_Channel_loseWhatIsUnderWay_7 rfl rfl ?_
  obtain ⟨hs3, h⟩ := h
  refine pw_getR (c := 1) (k := 3) (f := 67) dc_Channel_loseWhatIsUnderWay_8 fl_Channel_32 rfl rfl hs3 ?_
  obtain ⟨b2, hb2, h⟩ := h
  refine PW.top (v' := .ref b2) (congrArg va_rf hb2) ?_
  obtain ⟨hs4, h⟩ := h
  refine pw_callV (vs := []) (st := []) (b := b2) (cn := 5) dc_Channel_loseWhatIsUnderWay_11 cq_Outlet_beginAnew (List.mem_of_getElem? (i := 378) (by decide +kernel)) (List.mem_of_getElem? (i := 379) (by decide +kernel)) (List.mem_of_getElem? (i := 377) (by decide +kernel)) rfl hs4 rfl rfl (by decide) (cat_nil) (Nat.le_of_ble_eq_true rfl) (PW.mono (kV_kN (fun σ2 h => ?_)) h)
  exact pw_vret dc_Channel_loseWhatIsUnderWay_14 rfl h
theorem dc_Numbers_init_0 : decode M_Numbers_init.2.1 0 = .ok (.aload_n 0, 1) := by decide +kernel
theorem dc_Numbers_init_1 : decode M_Numbers_init.2.1 1 = .ok (.invokespecial 3, 3) := by decide +kernel
theorem dc_Numbers_init_4 : decode M_Numbers_init.2.1 4 = .ok (.aload_n 0, 1) := by decide +kernel
theorem dc_Numbers_init_5 : decode M_Numbers_init.2.1 5 = .ok (.sipush 999, 3) := by decide +kernel
theorem dc_Numbers_init_8 : decode M_Numbers_init.2.1 8 = .ok (.putfield 9, 3) := by decide +kernel
theorem dc_Numbers_init_11 : decode M_Numbers_init.2.1 11 = .ok (.aload_n 0, 1) := by decide +kernel
theorem dc_Numbers_init_12 : decode M_Numbers_init.2.1 12 = .ok (.bipush 30, 2) := by decide +kernel
theorem dc_Numbers_init_14 : decode M_Numbers_init.2.1 14 = .ok (.newarray .int, 2) := by decide +kernel
theorem dc_Numbers_init_16 : decode M_Numbers_init.2.1 16 = .ok (.putfield 15, 3) := by decide +kernel
theorem dc_Numbers_init_19 : decode M_Numbers_init.2.1 19 = .ok (.return_, 1) := by decide +kernel
set_option maxRecDepth 20000 in
theorem e_Numbers_init_0 {d : Nat} {σ : PH} {K : PO → PH → Prop} (x0 : Nat) (h : sh σ x0 = (1, 4) ∧ (∀ σ1 : PH, σ1 = pI σ 256 x0 999 → cc σ1 + 1 ≤ 601024 ∧ cs σ1 + 30 ≤ 7293034 ∧ (∀ σ2 : PH, σ2 = mk σ1 (2, 30) 30 → sh σ2 x0 = (1, 4) ∧ (∀ σ3 : PH, σ3 = pR σ2 257 x0 (some (nx σ1)) → K (.inl none) σ3)))) : PW (d + 1) M_Numbers_init 0 [.ref x0] [] σ K := by
  refine pw_aload_n dc_Numbers_init_0 rfl rfl ?_
  refine pw_objInit dc_Numbers_init_1 (List.mem_of_getElem? (i := 224) (by decide +kernel)) (List.mem_of_getElem? (i := 91) (by decide +kernel)) (List.mem_of_getElem? (i := 92) (by decide +kernel)) (Nat.le_of_ble_eq_true rfl) ?_
  refine pw_aload_n dc_Numbers_init_4 rfl rfl ?_
  refine pw_sipush (v := 999) dc_Numbers_init_5 (by decide) ?_
  obtain ⟨hs1, h⟩ := h
  have h := h _ rfl
  refine pw_putI (c := 4) (k := 0) (f := 256) dc_Numbers_init_8 fl_Numbers_9 (Or.inl rfl) rfl rfl hs1 ?_
  refine pw_aload_n dc_Numbers_init_11 rfl rfl ?_
  refine pw_bipush (v := 30) dc_Numbers_init_12 (by decide) ?_
  refine PW.top (v' := .int (nI 30)) rfl ?_
  obtain ⟨hr1, hr2, h⟩ := h
  have h := h _ rfl
  refine pw_newa (k := 2) (N := 30) dc_Numbers_init_14 (by unfold nk; decide) rfl (List.mem_of_getElem? (i := 131) (by decide +kernel)) (by decide) hr1 hr2 ?_
  obtain ⟨hs2, h⟩ := h
  have h := h _ rfl
  refine pw_putR (c := 4) (k := 1) (f := 257) (v := some _) dc_Numbers_init_16 fl_Numbers_15 (Or.inr ⟨rfl, rfl, rfl, List.mem_of_getElem? (i := 227) (by decide +kernel)⟩) rfl rfl hs2 ?_
  exact pw_vret dc_Numbers_init_19 rfl h
theorem dc_Numbers_accepts_0 : decode M_Numbers_accepts.2.1 0 = .ok (.aload_n 0, 1) := by decide +kernel
theorem dc_Numbers_accepts_1 : decode M_Numbers_accepts.2.1 1 = .ok (.iload_n 1, 1) := by decide +kernel
theorem dc_Numbers_accepts_2 : decode M_Numbers_accepts.2.1 2 = .ok (.invokevirtual 19, 3) := by decide +kernel
theorem dc_Numbers_accepts_5 : decode M_Numbers_accepts.2.1 5 = .ok (.ifCond .ne 12, 3) := by decide +kernel
theorem dc_Numbers_accepts_8 : decode M_Numbers_accepts.2.1 8 = .ok (.aload_n 0, 1) := by decide +kernel
theorem dc_Numbers_accepts_9 : decode M_Numbers_accepts.2.1 9 = .ok (.iload_n 1, 1) := by decide +kernel
theorem dc_Numbers_accepts_10 : decode M_Numbers_accepts.2.1 10 = .ok (.invokevirtual 23, 3) := by decide +kernel
theorem dc_Numbers_accepts_13 : decode M_Numbers_accepts.2.1 13 = .ok (.iconst (-1), 1) := by decide +kernel
theorem dc_Numbers_accepts_14 : decode M_Numbers_accepts.2.1 14 = .ok (.if_icmp .eq 7, 3) := by decide +kernel
theorem dc_Numbers_accepts_17 : decode M_Numbers_accepts.2.1 17 = .ok (.iconst 1, 1) := by decide +kernel
theorem dc_Numbers_accepts_18 : decode M_Numbers_accepts.2.1 18 = .ok (.goto 4, 3) := by decide +kernel
theorem dc_Numbers_accepts_21 : decode M_Numbers_accepts.2.1 21 = .ok (.iconst 0, 1) := by decide +kernel
theorem dc_Numbers_accepts_22 : decode M_Numbers_accepts.2.1 22 = .ok (.ireturn, 1) := by decide +kernel
set_option maxRecDepth 20000 in
theorem e_Numbers_accepts_0 {d : Nat} {σ : PH} {K : PO → PH → Prop} (x0 : Nat) (x1 : Int32) (h : sh σ x0 = (1, 4) ∧ PW d M_Numbers_isDue 0 [.ref x0, .int x1, uu] [] σ (kI (fun r1 σ1 => (if r1 = 0 then sh σ1 x0 = (1, 4) ∧ PW d M_Numbers_placeOf 0 [.ref x0, .int x1, uu] [] σ1 (kI (fun r2 σ2 => (if r2 = (-1) then K (.inl (some (.int 0))) σ2 else K (.inl (some (.int 1))) σ2)) K) else K (.inl (some (.int 1))) σ1)) K)) : PW (d + 1) M_Numbers_accepts 0 [.ref x0, .int x1] [] σ K := by
  refine pw_aload_n dc_Numbers_accepts_0 rfl rfl ?_
  refine pw_iload_n dc_Numbers_accepts_1 rfl ?_
  obtain ⟨hs1, h⟩ := h
  refine pw_callV (vs := [.int x1]) (st := []) (b := x0) (cn := 4) dc_Numbers_accepts_2 cq_Numbers_isDue (List.mem_of_getElem? (i := 606) (by decide +kernel)) (List.mem_of_getElem? (i := 12) (by decide +kernel)) (List.mem_of_getElem? (i := 604) (by decide +kernel)) rfl hs1 rfl rfl (by decide) (cat_cons rfl (cat_nil)) (Nat.le_of_ble_eq_true rfl) (PW.mono (kI_kN (fun r1 σ1 h => ?_)) h)
  refine pw_if_ne (tgt := 17) dc_Numbers_accepts_5 (by decide) (fun hc => ?_) (fun hc => ?_)
  · have h := ite_f h hc
    refine pw_iconst (v := 1) dc_Numbers_accepts_17 (by decide) ?_
    refine pw_goto (tgt := 22) dc_Numbers_accepts_18 (by decide) ?_
    exact pw_iret dc_Numbers_accepts_22 rfl (bo_nar (Or.inr rfl)) h
  · have h := ite_t h hc
    refine pw_aload_n dc_Numbers_accepts_8 rfl rfl ?_
    refine pw_iload_n dc_Numbers_accepts_9 rfl ?_
    obtain ⟨hs2, h⟩ := h
    refine pw_callV (vs := [.int x1]) (st := []) (b := x0) (cn := 4) dc_Numbers_accepts_10 cq_Numbers_placeOf (List.mem_of_getElem? (i := 614) (by decide +kernel)) (List.mem_of_getElem? (i := 14) (by decide +kernel)) (List.mem_of_getElem? (i := 612) (by decide +kernel)) rfl hs2 rfl rfl (by decide) (cat_cons rfl (cat_nil)) (Nat.le_of_ble_eq_true rfl) (PW.mono (kI_kN (fun r2 σ2 h => ?_)) h)
    refine pw_iconst (v := (-1)) dc_Numbers_accepts_13 (by decide) ?_
    refine pw_icmp_eq (tgt := 21) dc_Numbers_accepts_14 (by decide) (fun hc => ?_) (fun hc => ?_)
    · have h := ite_t h hc
      refine pw_iconst (v := 0) dc_Numbers_accepts_21 (by decide) ?_
      exact pw_iret dc_Numbers_accepts_22 rfl (bo_nar (Or.inl rfl)) h
    · have h := ite_f h hc
      refine pw_iconst (v := 1) dc_Numbers_accepts_17 (by decide) ?_
      refine pw_goto (tgt := 22) dc_Numbers_accepts_18 (by decide) ?_
      exact pw_iret dc_Numbers_accepts_22 rfl (bo_nar (Or.inr rfl)) h
theorem dc_Numbers_take_0 : decode M_Numbers_take.2.1 0 = .ok (.aload_n 0, 1) := by decide +kernel
theorem dc_Numbers_take_1 : decode M_Numbers_take.2.1 1 = .ok (.iload_n 1, 1) := by decide +kernel
theorem dc_Numbers_take_2 : decode M_Numbers_take.2.1 2 = .ok (.invokevirtual 19, 3) := by decide +kernel
theorem dc_Numbers_take_5 : decode M_Numbers_take.2.1 5 = .ok (.ifCond .eq 16, 3) := by decide +kernel
theorem dc_Numbers_take_8 : decode M_Numbers_take.2.1 8 = .ok (.aload_n 0, 1) := by decide +kernel
theorem dc_Numbers_take_9 : decode M_Numbers_take.2.1 9 = .ok (.iload_n 1, 1) := by decide +kernel
theorem dc_Numbers_take_10 : decode M_Numbers_take.2.1 10 = .ok (.invokevirtual 27, 3) := by decide +kernel
theorem dc_Numbers_take_13 : decode M_Numbers_take.2.1 13 = .ok (.aload_n 0, 1) := by decide +kernel
theorem dc_Numbers_take_14 : decode M_Numbers_take.2.1 14 = .ok (.iload_n 1, 1) := by decide +kernel
theorem dc_Numbers_take_15 : decode M_Numbers_take.2.1 15 = .ok (.putfield 9, 3) := by decide +kernel
theorem dc_Numbers_take_18 : decode M_Numbers_take.2.1 18 = .ok (.goto 12, 3) := by decide +kernel
theorem dc_Numbers_take_21 : decode M_Numbers_take.2.1 21 = .ok (.aload_n 0, 1) := by decide +kernel
theorem dc_Numbers_take_22 : decode M_Numbers_take.2.1 22 = .ok (.aload_n 0, 1) := by decide +kernel
theorem dc_Numbers_take_23 : decode M_Numbers_take.2.1 23 = .ok (.iload_n 1, 1) := by decide +kernel
theorem dc_Numbers_take_24 : decode M_Numbers_take.2.1 24 = .ok (.invokevirtual 23, 3) := by decide +kernel
theorem dc_Numbers_take_27 : decode M_Numbers_take.2.1 27 = .ok (.invokevirtual 31, 3) := by decide +kernel
theorem dc_Numbers_take_30 : decode M_Numbers_take.2.1 30 = .ok (.return_, 1) := by decide +kernel
set_option maxRecDepth 20000 in
theorem e_Numbers_take_0 {d : Nat} {σ : PH} {K : PO → PH → Prop} (x0 : Nat) (x1 : Int32) (h : sh σ x0 = (1, 4) ∧ PW d M_Numbers_isDue 0 [.ref x0, .int x1, uu] [] σ (kI (fun r1 σ1 => (if r1 = 0 then sh σ1 x0 = (1, 4) ∧ PW d M_Numbers_placeOf 0 [.ref x0, .int x1, uu] [] σ1 (kI (fun r2 σ2 => sh σ2 x0 = (1, 4) ∧ PW d M_Numbers_dropMissing 0 [.ref x0, .int r2, uu] [] σ2 (kV (fun σ3 => K (.inl none) σ3) K)) K) else sh σ1 x0 = (1, 4) ∧ PW d M_Numbers_missAllBefore 0 [.ref x0, .int x1, uu, uu, uu] [] σ1 (kV (fun σ4 => sh σ4 x0 = (1, 4) ∧ (∀ σ5 : PH, σ5 = pI σ4 256 x0 x1 → K (.inl none) σ5)) K))) K)) : PW (d + 1) M_Numbers_take 0 [.ref x0, .int x1] [] σ K := by
  refine pw_aload_n dc_Numbers_take_0 rfl rfl ?_
  refine pw_iload_n dc_Numbers_take_1 rfl ?_
  obtain ⟨hs1, h⟩ := h
  refine pw_callV (vs := [.int x1]) (st := []) (b := x0) (cn := 4) dc_Numbers_take_2 cq_Numbers_isDue (List.mem_of_getElem? (i := 606) (by decide +kernel)) (List.mem_of_getElem? (i := 12) (by decide +kernel)) (List.mem_of_getElem? (i := 604) (by decide +kernel)) rfl hs1 rfl rfl (by decide) (cat_cons rfl (cat_nil)) (Nat.le_of_ble_eq_true rfl) (PW.mono (kI_kN (fun r1 σ1 h => ?_)) h)
  refine pw_if_eq (tgt := 21) dc_Numbers_take_5 (by decide) (fun hc => ?_) (fun hc => ?_)
  · have h := ite_t h hc
    refine pw_aload_n dc_Numbers_take_21 rfl rfl ?_
    refine pw_aload_n dc_Numbers_take_22 rfl rfl ?_
    refine pw_iload_n dc_Numbers_take_23 rfl ?_
    obtain ⟨hs2, h⟩ := h
    refine pw_callV (vs := [.int x1]) (st := [.ref x0]) (b := x0) (cn := 4) dc_Numbers_take_24 cq_Numbers_placeOf (List.mem_of_getElem? (i := 614) (by decide +kernel)) (List.mem_of_getElem? (i := 14) (by decide +kernel)) (List.mem_of_getElem? (i := 612) (by decide +kernel)) rfl hs2 rfl rfl (by decide) (cat_cons rfl (cat_nil)) (Nat.le_of_ble_eq_true rfl) (PW.mono (kI_kN (fun r2 σ2 h => ?_)) h)
    obtain ⟨hs3, h⟩ := h
    refine pw_callV (vs := [.int r2]) (st := []) (b := x0) (cn := 4) dc_Numbers_take_27 cq_Numbers_dropMissing (List.mem_of_getElem? (i := 629) (by decide +kernel)) (List.mem_of_getElem? (i := 16) (by decide +kernel)) (List.mem_of_getElem? (i := 627) (by decide +kernel)) rfl hs3 rfl rfl (by decide) (cat_cons rfl (cat_nil)) (Nat.le_of_ble_eq_true rfl) (PW.mono (kV_kN (fun σ3 h => ?_)) h)
    exact pw_vret dc_Numbers_take_30 rfl h
  · have h := ite_f h hc
    refine pw_aload_n dc_Numbers_take_8 rfl rfl ?_
    refine pw_iload_n dc_Numbers_take_9 rfl ?_
    obtain ⟨hs4, h⟩ := h
    refine pw_callV (vs := [.int x1]) (st := []) (b := x0) (cn := 4) dc_Numbers_take_10 cq_Numbers_missAllBefore (List.mem_of_getElem? (i := 622) (by decide +kernel)) (List.mem_of_getElem? (i := 15) (by decide +kernel)) (List.mem_of_getElem? (i := 620) (by decide +kernel)) rfl hs4 rfl rfl (by decide) (cat_cons rfl (cat_nil)) (Nat.le_of_ble_eq_true rfl) (PW.mono (kV_kN (fun σ4 h => ?_)) h)
    refine pw_aload_n dc_Numbers_take_13 rfl rfl ?_
    refine pw_iload_n dc_Numbers_take_14 rfl ?_
    obtain ⟨hs5, h⟩ := h
    have h := h _ rfl
    refine pw_putI (c := 4) (k := 0) (f := 256) dc_Numbers_take_15 fl_Numbers_9 (Or.inl rfl) rfl rfl hs5 ?_
    refine pw_goto (tgt := 30) dc_Numbers_take_18 (by decide) ?_
    exact pw_vret dc_Numbers_take_30 rfl h
theorem dc_Numbers_firstMissing_0 : decode M_Numbers_firstMissing.2.1 0 = .ok (.aload_n 0, 1) := by decide +kernel
theorem dc_Numbers_firstMissing_1 : decode M_Numbers_firstMissing.2.1 1 = .ok (.getfield 34, 3) := by decide +kernel
theorem dc_Numbers_firstMissing_4 : decode M_Numbers_firstMissing.2.1 4 = .ok (.ifCond .le 12, 3) := by decide +kernel
theorem dc_Numbers_firstMissing_7 : decode M_Numbers_firstMissing.2.1 7 = .ok (.aload_n 0, 1) := by decide +kernel
theorem dc_Numbers_firstMissing_8 : decode M_Numbers_firstMissing.2.1 8 = .ok (.getfield 15, 3) := by decide +kernel
theorem dc_Numbers_firstMissing_11 : decode M_Numbers_firstMissing.2.1 11 = .ok (.iconst 0, 1) := by decide +kernel
theorem dc_Numbers_firstMissing_12 : decode M_Numbers_firstMissing.2.1 12 = .ok (.iaload, 1) := by decide +kernel
theorem dc_Numbers_firstMissing_13 : decode M_Numbers_firstMissing.2.1 13 = .ok (.goto 4, 3) := by decide +kernel
theorem dc_Numbers_firstMissing_16 : decode M_Numbers_firstMissing.2.1 16 = .ok (.iconst 0, 1) := by decide +kernel
theorem dc_Numbers_firstMissing_17 : decode M_Numbers_firstMissing.2.1 17 = .ok (.ireturn, 1) := by decide +kernel
set_option maxRecDepth 20000 in
theorem e_Numbers_firstMissing_0 {d : Nat} {σ : PH} {K : PO → PH → Prop} (x0 : Nat) (h : sh σ x0 = (1, 4) ∧ (if (gI σ 258 x0) ≤ 0 then K (.inl (some (.int 0))) σ else (∃ b1 : Nat, gR σ 257 x0 = some b1 ∧ (∃ n1 : Nat, sh σ b1 = (2, n1) ∧ vp_in 0 n1 ∧ K (.inl (some (.int (eI σ b1 (ix 0))))) σ)))) : PW d M_Numbers_firstMissing 0 [.ref x0] [] σ K := by
  refine pw_aload_n dc_Numbers_firstMissing_0 rfl rfl ?_
  obtain ⟨hs1, h⟩ := h
  refine pw_getI (c := 4) (k := 2) (f := 258) dc_Numbers_firstMissing_1 fl_Numbers_34 rfl rfl hs1 ?_
  refine pw_if_le (tgt := 16) dc_Numbers_firstMissing_4 (by decide) (fun hc => ?_) (fun hc => ?_)
  · have h := ite_t h hc
    refine pw_iconst (v := 0) dc_Numbers_firstMissing_16 (by decide) ?_
    exact pw_iret dc_Numbers_firstMissing_17 rfl rfl h
  · have h := ite_f h hc
    refine pw_aload_n dc_Numbers_firstMissing_7 rfl rfl ?_
    refine pw_getR (c := 4) (k := 1) (f := 257) dc_Numbers_firstMissing_8 fl_Numbers_15 rfl rfl hs1 ?_
    obtain ⟨b1, hb1, h⟩ := h
    refine PW.top (v' := .ref b1) (congrArg va_rf hb1) ?_
    refine pw_iconst (v := 0) dc_Numbers_firstMissing_11 (by decide) ?_
    obtain ⟨n1, hs2, h⟩ := h
    obtain ⟨hi1, h⟩ := h
    refine pw_iald dc_Numbers_firstMissing_12 hs2 hi1 ?_
    refine pw_goto (tgt := 17) dc_Numbers_firstMissing_13 (by decide) ?_
    exact pw_iret dc_Numbers_firstMissing_17 rfl rfl h
theorem dc_Numbers_forgetMissing_0 : decode M_Numbers_forgetMissing.2.1 0 = .ok (.aload_n 0, 1) := by decide +kernel
theorem dc_Numbers_forgetMissing_1 : decode M_Numbers_forgetMissing.2.1 1 = .ok (.iconst 0, 1) := by decide +kernel
theorem dc_Numbers_forgetMissing_2 : decode M_Numbers_forgetMissing.2.1 2 = .ok (.putfield 34, 3) := by decide +kernel
theorem dc_Numbers_forgetMissing_5 : decode M_Numbers_forgetMissing.2.1 5 = .ok (.return_, 1) := by decide +kernel
set_option maxRecDepth 20000 in
theorem e_Numbers_forgetMissing_0 {d : Nat} {σ : PH} {K : PO → PH → Prop} (x0 : Nat) (h : sh σ x0 = (1, 4) ∧ (∀ σ1 : PH, σ1 = pI σ 258 x0 0 → K (.inl none) σ1)) : PW d M_Numbers_forgetMissing 0 [.ref x0] [] σ K := by
  refine pw_aload_n dc_Numbers_forgetMissing_0 rfl rfl ?_
  refine pw_iconst (v := 0) dc_Numbers_forgetMissing_1 (by decide) ?_
  obtain ⟨hs1, h⟩ := h
  have h := h _ rfl
  refine pw_putI (c := 4) (k := 2) (f := 258) dc_Numbers_forgetMissing_2 fl_Numbers_34 (Or.inl rfl) rfl rfl hs1 ?_
  exact pw_vret dc_Numbers_forgetMissing_5 rfl h
theorem dc_Numbers_isDue_0 : decode M_Numbers_isDue.2.1 0 = .ok (.aload_n 0, 1) := by decide +kernel
theorem dc_Numbers_isDue_1 : decode M_Numbers_isDue.2.1 1 = .ok (.iload_n 1, 1) := by decide +kernel
theorem dc_Numbers_isDue_2 : decode M_Numbers_isDue.2.1 2 = .ok (.invokevirtual 37, 3) := by decide +kernel
theorem dc_Numbers_isDue_5 : decode M_Numbers_isDue.2.1 5 = .ok (.istore_n 2, 1) := by decide +kernel
theorem dc_Numbers_isDue_6 : decode M_Numbers_isDue.2.1 6 = .ok (.iload_n 2, 1) := by decide +kernel
theorem dc_Numbers_isDue_7 : decode M_Numbers_isDue.2.1 7 = .ok (.bipush 20, 2) := by decide +kernel
theorem dc_Numbers_isDue_9 : decode M_Numbers_isDue.2.1 9 = .ok (.if_icmp .gt 20, 3) := by decide +kernel
theorem dc_Numbers_isDue_12 : decode M_Numbers_isDue.2.1 12 = .ok (.aload_n 0, 1) := by decide +kernel
theorem dc_Numbers_isDue_13 : decode M_Numbers_isDue.2.1 13 = .ok (.getfield 34, 3) := by decide +kernel
theorem dc_Numbers_isDue_16 : decode M_Numbers_isDue.2.1 16 = .ok (.iload_n 2, 1) := by decide +kernel
theorem dc_Numbers_isDue_17 : decode M_Numbers_isDue.2.1 17 = .ok (.iadd, 1) := by decide +kernel
theorem dc_Numbers_isDue_18 : decode M_Numbers_isDue.2.1 18 = .ok (.iconst 1, 1) := by decide +kernel
theorem dc_Numbers_isDue_19 : decode M_Numbers_isDue.2.1 19 = .ok (.isub, 1) := by decide +kernel
theorem dc_Numbers_isDue_20 : decode M_Numbers_isDue.2.1 20 = .ok (.bipush 30, 2) := by decide +kernel
theorem dc_Numbers_isDue_22 : decode M_Numbers_isDue.2.1 22 = .ok (.if_icmp .gt 7, 3) := by decide +kernel
theorem dc_Numbers_isDue_25 : decode M_Numbers_isDue.2.1 25 = .ok (.iconst 1, 1) := by decide +kernel
theorem dc_Numbers_isDue_26 : decode M_Numbers_isDue.2.1 26 = .ok (.goto 4, 3) := by decide +kernel
theorem dc_Numbers_isDue_29 : decode M_Numbers_isDue.2.1 29 = .ok (.iconst 0, 1) := by decide +kernel
theorem dc_Numbers_isDue_30 : decode M_Numbers_isDue.2.1 30 = .ok (.ireturn, 1) := by decide +kernel
set_option maxRecDepth 20000 in
theorem e_Numbers_isDue_0 {d : Nat} {σ : PH} {K : PO → PH → Prop} (x0 : Nat) (x1 : Int32) (h : sh σ x0 = (1, 4) ∧ PW d M_Numbers_aheadOfLast 0 [.ref x0, .int x1, uu] [] σ (kI (fun r1 σ1 => (if 20 < r1 then K (.inl (some (.int 0))) σ1 else sh σ1 x0 = (1, 4) ∧ (if 30 < (((gI σ1 258 x0) + r1) - 1) then K (.inl (some (.int 0))) σ1 else K (.inl (some (.int 1))) σ1))) K)) : PW (d + 1) M_Numbers_isDue 0 [.ref x0, .int x1, uu] [] σ K := by
  refine pw_aload_n dc_Numbers_isDue_0 rfl rfl ?_
  refine pw_iload_n dc_Numbers_isDue_1 rfl ?_
  obtain ⟨hs1, h⟩ := h
  refine pw_callV (vs := [.int x1]) (st := []) (b := x0) (cn := 4) dc_Numbers_isDue_2 cq_Numbers_aheadOfLast (List.mem_of_getElem? (i := 610) (by decide +kernel)) (List.mem_of_getElem? (i := 13) (by decide +kernel)) (List.mem_of_getElem? (i := 608) (by decide +kernel)) rfl hs1 rfl rfl (by decide) (cat_cons rfl (cat_nil)) (Nat.le_of_ble_eq_true rfl) (PW.mono (kI_kN (fun r1 σ1 h => ?_)) h)
  refine pw_istore_n dc_Numbers_isDue_5 (by decide) ?_
  refine pw_iload_n dc_Numbers_isDue_6 rfl ?_
  refine pw_bipush (v := 20) dc_Numbers_isDue_7 (by decide) ?_
  refine pw_icmp_gt (tgt := 29) dc_Numbers_isDue_9 (by decide) (fun hc => ?_) (fun hc => ?_)
  · have h := ite_t h hc
    refine pw_iconst (v := 0) dc_Numbers_isDue_29 (by decide) ?_
    exact pw_iret dc_Numbers_isDue_30 rfl (bo_nar (Or.inl rfl)) h
  · have h := ite_f h hc
    refine pw_aload_n dc_Numbers_isDue_12 rfl rfl ?_
    obtain ⟨hs2, h⟩ := h
    refine pw_getI (c := 4) (k := 2) (f := 258) dc_Numbers_isDue_13 fl_Numbers_34 rfl rfl hs2 ?_
    refine pw_iload_n dc_Numbers_isDue_16 rfl ?_
    refine pw_iadd dc_Numbers_isDue_17 ?_
    refine pw_iconst (v := 1) dc_Numbers_isDue_18 (by decide) ?_
    refine pw_isub dc_Numbers_isDue_19 ?_
    refine pw_bipush (v := 30) dc_Numbers_isDue_20 (by decide) ?_
    refine pw_icmp_gt (tgt := 29) dc_Numbers_isDue_22 (by decide) (fun hc => ?_) (fun hc => ?_)
    · have h := ite_t h hc
      refine pw_iconst (v := 0) dc_Numbers_isDue_29 (by decide) ?_
      exact pw_iret dc_Numbers_isDue_30 rfl (bo_nar (Or.inl rfl)) h
    · have h := ite_f h hc
      refine pw_iconst (v := 1) dc_Numbers_isDue_25 (by decide) ?_
      refine pw_goto (tgt := 30) dc_Numbers_isDue_26 (by decide) ?_
      exact pw_iret dc_Numbers_isDue_30 rfl (bo_nar (Or.inr rfl)) h
theorem dc_Numbers_aheadOfLast_0 : decode M_Numbers_aheadOfLast.2.1 0 = .ok (.iload_n 1, 1) := by decide +kernel
theorem dc_Numbers_aheadOfLast_1 : decode M_Numbers_aheadOfLast.2.1 1 = .ok (.aload_n 0, 1) := by decide +kernel
theorem dc_Numbers_aheadOfLast_2 : decode M_Numbers_aheadOfLast.2.1 2 = .ok (.getfield 9, 3) := by decide +kernel
theorem dc_Numbers_aheadOfLast_5 : decode M_Numbers_aheadOfLast.2.1 5 = .ok (.isub, 1) := by decide +kernel
theorem dc_Numbers_aheadOfLast_6 : decode M_Numbers_aheadOfLast.2.1 6 = .ok (.istore_n 2, 1) := by decide +kernel
theorem dc_Numbers_aheadOfLast_7 : decode M_Numbers_aheadOfLast.2.1 7 = .ok (.iload_n 2, 1) := by decide +kernel
theorem dc_Numbers_aheadOfLast_8 : decode M_Numbers_aheadOfLast.2.1 8 = .ok (.ifCond .le 7, 3) := by decide +kernel
theorem dc_Numbers_aheadOfLast_11 : decode M_Numbers_aheadOfLast.2.1 11 = .ok (.iload_n 2, 1) := by decide +kernel
theorem dc_Numbers_aheadOfLast_12 : decode M_Numbers_aheadOfLast.2.1 12 = .ok (.goto 8, 3) := by decide +kernel
theorem dc_Numbers_aheadOfLast_15 : decode M_Numbers_aheadOfLast.2.1 15 = .ok (.iload_n 2, 1) := by decide +kernel
theorem dc_Numbers_aheadOfLast_16 : decode M_Numbers_aheadOfLast.2.1 16 = .ok (.sipush 999, 3) := by decide +kernel
theorem dc_Numbers_aheadOfLast_19 : decode M_Numbers_aheadOfLast.2.1 19 = .ok (.iadd, 1) := by decide +kernel
theorem dc_Numbers_aheadOfLast_20 : decode M_Numbers_aheadOfLast.2.1 20 = .ok (.ireturn, 1) := by decide +kernel
set_option maxRecDepth 20000 in
theorem e_Numbers_aheadOfLast_0 {d : Nat} {σ : PH} {K : PO → PH → Prop} (x0 : Nat) (x1 : Int32) (h : sh σ x0 = (1, 4) ∧ (if (x1 - (gI σ 256 x0)) ≤ 0 then K (.inl (some (.int ((x1 - (gI σ 256 x0)) + 999)))) σ else K (.inl (some (.int (x1 - (gI σ 256 x0))))) σ)) : PW d M_Numbers_aheadOfLast 0 [.ref x0, .int x1, uu] [] σ K := by
  refine pw_iload_n dc_Numbers_aheadOfLast_0 rfl ?_
  refine pw_aload_n dc_Numbers_aheadOfLast_1 rfl rfl ?_
  obtain ⟨hs1, h⟩ := h
  refine pw_getI (c := 4) (k := 0) (f := 256) dc_Numbers_aheadOfLast_2 fl_Numbers_9 rfl rfl hs1 ?_
  refine pw_isub dc_Numbers_aheadOfLast_5 ?_
  refine pw_istore_n dc_Numbers_aheadOfLast_6 (by decide) ?_
  refine pw_iload_n dc_Numbers_aheadOfLast_7 rfl ?_
  refine pw_if_le (tgt := 15) dc_Numbers_aheadOfLast_8 (by decide) (fun hc => ?_) (fun hc => ?_)
  · have h := ite_t h hc
    refine pw_iload_n dc_Numbers_aheadOfLast_15 rfl ?_
    refine pw_sipush (v := 999) dc_Numbers_aheadOfLast_16 (by decide) ?_
    refine pw_iadd dc_Numbers_aheadOfLast_19 ?_
    exact pw_iret dc_Numbers_aheadOfLast_20 rfl rfl h
  · have h := ite_f h hc
    refine pw_iload_n dc_Numbers_aheadOfLast_11 rfl ?_
    refine pw_goto (tgt := 20) dc_Numbers_aheadOfLast_12 (by decide) ?_
    exact pw_iret dc_Numbers_aheadOfLast_20 rfl rfl h
theorem dc_Numbers_missAllBefore_0 : decode M_Numbers_missAllBefore.2.1 0 = .ok (.aload_n 0, 1) := by decide +kernel
theorem dc_Numbers_missAllBefore_1 : decode M_Numbers_missAllBefore.2.1 1 = .ok (.iload_n 1, 1) := by decide +kernel
theorem dc_Numbers_missAllBefore_2 : decode M_Numbers_missAllBefore.2.1 2 = .ok (.invokevirtual 37, 3) := by decide +kernel
theorem dc_Numbers_missAllBefore_5 : decode M_Numbers_missAllBefore.2.1 5 = .ok (.iconst 1, 1) := by decide +kernel
theorem dc_Numbers_missAllBefore_6 : decode M_Numbers_missAllBefore.2.1 6 = .ok (.isub, 1) := by decide +kernel
theorem dc_Numbers_missAllBefore_7 : decode M_Numbers_missAllBefore.2.1 7 = .ok (.istore_n 2, 1) := by decide +kernel
theorem dc_Numbers_missAllBefore_8 : decode M_Numbers_missAllBefore.2.1 8 = .ok (.aload_n 0, 1) := by decide +kernel
theorem dc_Numbers_missAllBefore_9 : decode M_Numbers_missAllBefore.2.1 9 = .ok (.getfield 9, 3) := by decide +kernel
theorem dc_Numbers_missAllBefore_12 : decode M_Numbers_missAllBefore.2.1 12 = .ok (.istore_n 3, 1) := by decide +kernel
theorem dc_Numbers_missAllBefore_13 : decode M_Numbers_missAllBefore.2.1 13 = .ok (.iconst 0, 1) := by decide +kernel
theorem dc_Numbers_missAllBefore_14 : decode M_Numbers_missAllBefore.2.1 14 = .ok (.istore 4, 2) := by decide +kernel
theorem dc_Numbers_missAllBefore_16 : decode M_Numbers_missAllBefore.2.1 16 = .ok (.iload 4, 2) := by decide +kernel
theorem dc_Numbers_missAllBefore_18 : decode M_Numbers_missAllBefore.2.1 18 = .ok (.iload_n 2, 1) := by decide +kernel
theorem dc_Numbers_missAllBefore_19 : decode M_Numbers_missAllBefore.2.1 19 = .ok (.if_icmp .ge 43, 3) := by decide +kernel
theorem dc_Numbers_missAllBefore_22 : decode M_Numbers_missAllBefore.2.1 22 = .ok (.aload_n 0, 1) := by decide +kernel
theorem dc_Numbers_missAllBefore_23 : decode M_Numbers_missAllBefore.2.1 23 = .ok (.getfield 34, 3) := by decide +kernel
theorem dc_Numbers_missAllBefore_26 : decode M_Numbers_missAllBefore.2.1 26 = .ok (.bipush 30, 2) := by decide +kernel
theorem dc_Numbers_missAllBefore_28 : decode M_Numbers_missAllBefore.2.1 28 = .ok (.if_icmp .ge 34, 3) := by decide +kernel
theorem dc_Numbers_missAllBefore_31 : decode M_Numbers_missAllBefore.2.1 31 = .ok (.iload_n 3, 1) := by decide +kernel
theorem dc_Numbers_missAllBefore_32 : decode M_Numbers_missAllBefore.2.1 32 = .ok (.invokestatic 40, 3) := by decide +kernel
theorem dc_Numbers_missAllBefore_35 : decode M_Numbers_missAllBefore.2.1 35 = .ok (.istore_n 3, 1) := by decide +kernel
theorem dc_Numbers_missAllBefore_36 : decode M_Numbers_missAllBefore.2.1 36 = .ok (.aload_n 0, 1) := by decide +kernel
theorem dc_Numbers_missAllBefore_37 : decode M_Numbers_missAllBefore.2.1 37 = .ok (.getfield 15, 3) := by decide +kernel
theorem dc_Numbers_missAllBefore_40 : decode M_Numbers_missAllBefore.2.1 40 = .ok (.aload_n 0, 1) := by decide +kernel
theorem dc_Numbers_missAllBefore_41 : decode M_Numbers_missAllBefore.2.1 41 = .ok (.getfield 34, 3) := by decide +kernel
theorem dc_Numbers_missAllBefore_44 : decode M_Numbers_missAllBefore.2.1 44 = .ok (.iload_n 3, 1) := by decide +kernel
theorem dc_Numbers_missAllBefore_45 : decode M_Numbers_missAllBefore.2.1 45 = .ok (.iastore, 1) := by decide +kernel
theorem dc_Numbers_missAllBefore_46 : decode M_Numbers_missAllBefore.2.1 46 = .ok (.aload_n 0, 1) := by decide +kernel
theorem dc_Numbers_missAllBefore_47 : decode M_Numbers_missAllBefore.2.1 47 = .ok (.dup, 1) := by decide +kernel
theorem dc_Numbers_missAllBefore_48 : decode M_Numbers_missAllBefore.2.1 48 = .ok (.getfield 34, 3) := by decide +kernel
theorem dc_Numbers_missAllBefore_51 : decode M_Numbers_missAllBefore.2.1 51 = .ok (.iconst 1, 1) := by decide +kernel
theorem dc_Numbers_missAllBefore_52 : decode M_Numbers_missAllBefore.2.1 52 = .ok (.iadd, 1) := by decide +kernel
theorem dc_Numbers_missAllBefore_53 : decode M_Numbers_missAllBefore.2.1 53 = .ok (.putfield 34, 3) := by decide +kernel
theorem dc_Numbers_missAllBefore_56 : decode M_Numbers_missAllBefore.2.1 56 = .ok (.iinc 4 1, 3) := by decide +kernel
theorem dc_Numbers_missAllBefore_59 : decode M_Numbers_missAllBefore.2.1 59 = .ok (.goto (-43), 3) := by decide +kernel
theorem dc_Numbers_missAllBefore_62 : decode M_Numbers_missAllBefore.2.1 62 = .ok (.return_, 1) := by decide +kernel
set_option maxRecDepth 20000 in
theorem e_Numbers_missAllBefore_0 {d : Nat} {σ : PH} {K : PO → PH → Prop} (x0 : Nat) (x1 : Int32) (h : sh σ x0 = (1, 4) ∧ PW d M_Numbers_aheadOfLast 0 [.ref x0, .int x1, uu] [] σ (kI (fun r1 σ1 => sh σ1 x0 = (1, 4) ∧ PW (d + 1) M_Numbers_missAllBefore 16 [.ref x0, uu, .int (r1 - 1), .int (gI σ1 256 x0), .int 0] [] σ1 K) K)) : PW (d + 1) M_Numbers_missAllBefore 0 [.ref x0, .int x1, uu, uu, uu] [] σ K := by
  refine pw_aload_n dc_Numbers_missAllBefore_0 rfl rfl ?_
  refine pw_iload_n dc_Numbers_missAllBefore_1 rfl ?_
  obtain ⟨hs1, h⟩ := h
  refine pw_callV (vs := [.int x1]) (st := []) (b := x0) (cn := 4) dc_Numbers_missAllBefore_2 cq_Numbers_aheadOfLast (List.mem_of_getElem? (i := 610) (by decide +kernel)) (List.mem_of_getElem? (i := 13) (by decide +kernel)) (List.mem_of_getElem? (i := 608) (by decide +kernel)) rfl hs1 rfl rfl (by decide) (cat_cons rfl (cat_nil)) (Nat.le_of_ble_eq_true rfl) (PW.mono (kI_kN (fun r1 σ1 h => ?_)) h)
  refine pw_iconst (v := 1) dc_Numbers_missAllBefore_5 (by decide) ?_
  refine pw_isub dc_Numbers_missAllBefore_6 ?_
  refine pw_istore_n dc_Numbers_missAllBefore_7 (by decide) ?_
  refine pw_aload_n dc_Numbers_missAllBefore_8 rfl rfl ?_
  obtain ⟨hs2, h⟩ := h
  refine pw_getI (c := 4) (k := 0) (f := 256) dc_Numbers_missAllBefore_9 fl_Numbers_9 rfl rfl hs2 ?_
  refine pw_istore_n dc_Numbers_missAllBefore_12 (by decide) ?_
  refine pw_iconst (v := 0) dc_Numbers_missAllBefore_13 (by decide) ?_
  refine pw_istore dc_Numbers_missAllBefore_14 (by decide) ?_
  refine PW.drop (ls' := [.ref x0, uu, .int (r1 - 1), .int (gI σ1 256 x0), .int 0]) ⟨Or.inl rfl, Or.inr rfl, Or.inl rfl, Or.inl rfl, Or.inl rfl, trivial⟩ ?_
  exact h
set_option maxRecDepth 20000 in
theorem e_Numbers_missAllBefore_16 {d : Nat} {σ : PH} {K : PO → PH → Prop} (x0 : Nat) (x2 : Int32) (x3 : Int32) (x4 : Int32) (h : (if x2 ≤ x4 then K (.inl none) σ else sh σ x0 = (1, 4) ∧ (if 30 ≤ (gI σ 258 x0) then K (.inl none) σ else PW d M_Numbers_numberBehind 0 [.int x3] [] σ (kI (fun r1 σ1 => sh σ1 x0 = (1, 4) ∧ (∃ b1 : Nat, gR σ1 257 x0 = some b1 ∧ (∃ n1 : Nat, sh σ1 b1 = (2, n1) ∧ vp_in (gI σ1 258 x0) n1 ∧ (∀ σ2 : PH, σ2 = uI σ1 b1 (ix (gI σ1 258 x0)) r1 → sh σ2 x0 = (1, 4) ∧ (∀ σ3 : PH, σ3 = pI σ2 258 x0 ((gI σ2 258 x0) + 1) → PW (d + 1) M_Numbers_missAllBefore 16 [.ref x0, uu, .int x2, .int r1, .int (x4 + 1)] [] σ3 K))))) K)))) : PW (d + 1) M_Numbers_missAllBefore 16 [.ref x0, uu, .int x2, .int x3, .int x4] [] σ K := by
  refine pw_iload dc_Numbers_missAllBefore_16 rfl ?_
  refine pw_iload_n dc_Numbers_missAllBefore_18 rfl ?_
  refine pw_icmp_ge (tgt := 62) dc_Numbers_missAllBefore_19 (by decide) (fun hc => ?_) (fun hc => ?_)
  · have h := ite_t h hc
    exact pw_vret dc_Numbers_missAllBefore_62 rfl h
  · have h := ite_f h hc
    refine pw_aload_n dc_Numbers_missAllBefore_22 rfl rfl ?_
    obtain ⟨hs1, h⟩ := h
    refine pw_getI (c := 4) (k := 2) (f := 258) dc_Numbers_missAllBefore_23 fl_Numbers_34 rfl rfl hs1 ?_
    refine pw_bipush (v := 30) dc_Numbers_missAllBefore_26 (by decide) ?_
    refine pw_icmp_ge (tgt := 62) dc_Numbers_missAllBefore_28 (by decide) (fun hc => ?_) (fun hc => ?_)
    · have h := ite_t h hc
      exact pw_vret dc_Numbers_missAllBefore_62 rfl h
    · have h := ite_f h hc
      refine pw_iload_n dc_Numbers_missAllBefore_31 rfl ?_
      refine pw_callS (vs := [.int x3]) (st := []) dc_Numbers_missAllBefore_32 cq_Numbers_numberBehind (List.mem_of_getElem? (i := 625) (by decide +kernel)) (List.mem_of_getElem? (i := 624) (by decide +kernel)) rfl rfl (cat_cons rfl (cat_nil)) (Nat.le_of_ble_eq_true rfl) (PW.mono (kI_kN (fun r1 σ1 h => ?_)) h)
      refine pw_istore_n dc_Numbers_missAllBefore_35 (by decide) ?_
      refine pw_aload_n dc_Numbers_missAllBefore_36 rfl rfl ?_
      obtain ⟨hs2, h⟩ := h
      refine pw_getR (c := 4) (k := 1) (f := 257) dc_Numbers_missAllBefore_37 fl_Numbers_15 rfl rfl hs2 ?_
      obtain ⟨b1, hb1, h⟩ := h
      refine PW.top (v' := .ref b1) (congrArg va_rf hb1) ?_
      refine pw_aload_n dc_Numbers_missAllBefore_40 rfl rfl ?_
      refine pw_getI (c := 4) (k := 2) (f := 258) dc_Numbers_missAllBefore_41 fl_Numbers_34 rfl rfl hs2 ?_
      refine pw_iload_n dc_Numbers_missAllBefore_44 rfl ?_
      obtain ⟨n1, hs3, h⟩ := h
      obtain ⟨hi1, h⟩ := h
      have h := h _ rfl
      refine pw_iast dc_Numbers_missAllBefore_45 hs3 hi1 ?_
      refine pw_aload_n dc_Numbers_missAllBefore_46 rfl rfl ?_
      refine pw_dup dc_Numbers_missAllBefore_47 rfl ?_
      obtain ⟨hs4, h⟩ := h
      refine pw_getI (c := 4) (k := 2) (f := 258) dc_Numbers_missAllBefore_48 fl_Numbers_34 rfl rfl hs4 ?_
      refine pw_iconst (v := 1) dc_Numbers_missAllBefore_51 (by decide) ?_
      refine pw_iadd dc_Numbers_missAllBefore_52 ?_
      have h := h _ rfl
      refine pw_putI (c := 4) (k := 2) (f := 258) dc_Numbers_missAllBefore_53 fl_Numbers_34 (Or.inl rfl) rfl rfl hs4 ?_
      refine pw_iincv (v := 1) dc_Numbers_missAllBefore_56 (by decide) rfl (by decide) ?_
      refine pw_goto (tgt := 16) dc_Numbers_missAllBefore_59 (by decide) ?_
      exact h
theorem dc_Numbers_placeOf_0 : decode M_Numbers_placeOf.2.1 0 = .ok (.iconst 0, 1) := by decide +kernel
theorem dc_Numbers_placeOf_1 : decode M_Numbers_placeOf.2.1 1 = .ok (.istore_n 2, 1) := by decide +kernel
theorem dc_Numbers_placeOf_2 : decode M_Numbers_placeOf.2.1 2 = .ok (.iload_n 2, 1) := by decide +kernel
theorem dc_Numbers_placeOf_3 : decode M_Numbers_placeOf.2.1 3 = .ok (.aload_n 0, 1) := by decide +kernel
theorem dc_Numbers_placeOf_4 : decode M_Numbers_placeOf.2.1 4 = .ok (.getfield 34, 3) := by decide +kernel
theorem dc_Numbers_placeOf_7 : decode M_Numbers_placeOf.2.1 7 = .ok (.if_icmp .ge 21, 3) := by decide +kernel
theorem dc_Numbers_placeOf_10 : decode M_Numbers_placeOf.2.1 10 = .ok (.aload_n 0, 1) := by decide +kernel
theorem dc_Numbers_placeOf_11 : decode M_Numbers_placeOf.2.1 11 = .ok (.getfield 15, 3) := by decide +kernel
theorem dc_Numbers_placeOf_14 : decode M_Numbers_placeOf.2.1 14 = .ok (.iload_n 2, 1) := by decide +kernel
theorem dc_Numbers_placeOf_15 : decode M_Numbers_placeOf.2.1 15 = .ok (.iaload, 1) := by decide +kernel
theorem dc_Numbers_placeOf_16 : decode M_Numbers_placeOf.2.1 16 = .ok (.iload_n 1, 1) := by decide +kernel
theorem dc_Numbers_placeOf_17 : decode M_Numbers_placeOf.2.1 17 = .ok (.if_icmp .ne 5, 3) := by decide +kernel
theorem dc_Numbers_placeOf_20 : decode M_Numbers_placeOf.2.1 20 = .ok (.iload_n 2, 1) := by decide +kernel
theorem dc_Numbers_placeOf_21 : decode M_Numbers_placeOf.2.1 21 = .ok (.ireturn, 1) := by decide +kernel
theorem dc_Numbers_placeOf_22 : decode M_Numbers_placeOf.2.1 22 = .ok (.iinc 2 1, 3) := by decide +kernel
theorem dc_Numbers_placeOf_25 : decode M_Numbers_placeOf.2.1 25 = .ok (.goto (-23), 3) := by decide +kernel
theorem dc_Numbers_placeOf_28 : decode M_Numbers_placeOf.2.1 28 = .ok (.iconst (-1), 1) := by decide +kernel
theorem dc_Numbers_placeOf_29 : decode M_Numbers_placeOf.2.1 29 = .ok (.ireturn, 1) := by decide +kernel
set_option maxRecDepth 20000 in
theorem e_Numbers_placeOf_0 {d : Nat} {σ : PH} {K : PO → PH → Prop} (x0 : Nat) (x1 : Int32) (h : PW d M_Numbers_placeOf 2 [.ref x0, .int x1, .int 0] [] σ K) : PW d M_Numbers_placeOf 0 [.ref x0, .int x1, uu] [] σ K := by
  refine pw_iconst (v := 0) dc_Numbers_placeOf_0 (by decide) ?_
  refine pw_istore_n dc_Numbers_placeOf_1 (by decide) ?_
  exact h
set_option maxRecDepth 20000 in
theorem e_Numbers_placeOf_2 {d : Nat} {σ : PH} {K : PO → PH → Prop} (x0 : Nat) (x1 : Int32) (x2 : Int32) (h : sh σ x0 = (1, 4) ∧ (if (gI σ 258 x0) ≤ x2 then K (.inl (some (.int ((-1))))) σ else (∃ b1 : Nat, gR σ 257 x0 = some b1 ∧ (∃ n1 : Nat, sh σ b1 = (2, n1) ∧ vp_in x2 n1 ∧ (if (eI σ b1 (ix x2)) = x1 then K (.inl (some (.int x2))) σ else PW d M_Numbers_placeOf 2 [.ref x0, .int x1, .int (x2 + 1)] [] σ K))))) : PW d M_Numbers_placeOf 2 [.ref x0, .int x1, .int x2] [] σ K := by
  refine pw_iload_n dc_Numbers_placeOf_2 rfl ?_
  refine pw_aload_n dc_Numbers_placeOf_3 rfl rfl ?_
  obtain ⟨hs1, h⟩ := h
  refine pw_getI (c := 4) (k := 2) (f := 258) dc_Numbers_placeOf_4 fl_Numbers_34 rfl rfl hs1 ?_
  refine pw_icmp_ge (tgt := 28) dc_Numbers_placeOf_7 (by decide) (fun hc => ?_) (fun hc => ?_)
  · have h := ite_t h hc
    refine pw_iconst (v := (-1)) dc_Numbers_placeOf_28 (by decide) ?_
    exact pw_iret dc_Numbers_placeOf_29 rfl rfl h
  · have h := ite_f h hc
    refine pw_aload_n dc_Numbers_placeOf_10 rfl rfl ?_
    refine pw_getR (c := 4) (k := 1) (f := 257) dc_Numbers_placeOf_11 fl_Numbers_15 rfl rfl hs1 ?_
    obtain ⟨b1, hb1, h⟩ := h
    refine PW.top (v' := .ref b1) (congrArg va_rf hb1) ?_
    refine pw_iload_n dc_Numbers_placeOf_14 rfl ?_
    obtain ⟨n1, hs2, h⟩ := h
    obtain ⟨hi1, h⟩ := h
    refine pw_iald dc_Numbers_placeOf_15 hs2 hi1 ?_
    refine pw_iload_n dc_Numbers_placeOf_16 rfl ?_
    refine pw_icmp_ne (tgt := 22) dc_Numbers_placeOf_17 (by decide) (fun hc => ?_) (fun hc => ?_)
    · have h := ite_f h hc
      refine pw_iincv (v := 1) dc_Numbers_placeOf_22 (by decide) rfl (by decide) ?_
      refine pw_goto (tgt := 2) dc_Numbers_placeOf_25 (by decide) ?_
      exact h
    · have h := ite_t h hc
      refine pw_iload_n dc_Numbers_placeOf_20 rfl ?_
      exact pw_iret dc_Numbers_placeOf_21 rfl rfl h
theorem dc_Numbers_dropMissing_0 : decode M_Numbers_dropMissing.2.1 0 = .ok (.iload_n 1, 1) := by decide +kernel
theorem dc_Numbers_dropMissing_1 : decode M_Numbers_dropMissing.2.1 1 = .ok (.ifCond .lt 11, 3) := by decide +kernel
theorem dc_Numbers_dropMissing_4 : decode M_Numbers_dropMissing.2.1 4 = .ok (.iload_n 1, 1) := by decide +kernel
theorem dc_Numbers_dropMissing_5 : decode M_Numbers_dropMissing.2.1 5 = .ok (.aload_n 0, 1) := by decide +kernel
theorem dc_Numbers_dropMissing_6 : decode M_Numbers_dropMissing.2.1 6 = .ok (.getfield 34, 3) := by decide +kernel
theorem dc_Numbers_dropMissing_9 : decode M_Numbers_dropMissing.2.1 9 = .ok (.if_icmp .lt 4, 3) := by decide +kernel
theorem dc_Numbers_dropMissing_12 : decode M_Numbers_dropMissing.2.1 12 = .ok (.return_, 1) := by decide +kernel
theorem dc_Numbers_dropMissing_13 : decode M_Numbers_dropMissing.2.1 13 = .ok (.aload_n 0, 1) := by decide +kernel
theorem dc_Numbers_dropMissing_14 : decode M_Numbers_dropMissing.2.1 14 = .ok (.dup, 1) := by decide +kernel
theorem dc_Numbers_dropMissing_15 : decode M_Numbers_dropMissing.2.1 15 = .ok (.getfield 34, 3) := by decide +kernel
theorem dc_Numbers_dropMissing_18 : decode M_Numbers_dropMissing.2.1 18 = .ok (.iconst 1, 1) := by decide +kernel
theorem dc_Numbers_dropMissing_19 : decode M_Numbers_dropMissing.2.1 19 = .ok (.isub, 1) := by decide +kernel
theorem dc_Numbers_dropMissing_20 : decode M_Numbers_dropMissing.2.1 20 = .ok (.putfield 34, 3) := by decide +kernel
theorem dc_Numbers_dropMissing_23 : decode M_Numbers_dropMissing.2.1 23 = .ok (.iload_n 1, 1) := by decide +kernel
theorem dc_Numbers_dropMissing_24 : decode M_Numbers_dropMissing.2.1 24 = .ok (.istore_n 2, 1) := by decide +kernel
theorem dc_Numbers_dropMissing_25 : decode M_Numbers_dropMissing.2.1 25 = .ok (.iload_n 2, 1) := by decide +kernel
theorem dc_Numbers_dropMissing_26 : decode M_Numbers_dropMissing.2.1 26 = .ok (.aload_n 0, 1) := by decide +kernel
theorem dc_Numbers_dropMissing_27 : decode M_Numbers_dropMissing.2.1 27 = .ok (.getfield 34, 3) := by decide +kernel
theorem dc_Numbers_dropMissing_30 : decode M_Numbers_dropMissing.2.1 30 = .ok (.if_icmp .ge 23, 3) := by decide +kernel
theorem dc_Numbers_dropMissing_33 : decode M_Numbers_dropMissing.2.1 33 = .ok (.aload_n 0, 1) := by decide +kernel
theorem dc_Numbers_dropMissing_34 : decode M_Numbers_dropMissing.2.1 34 = .ok (.getfield 15, 3) := by decide +kernel
theorem dc_Numbers_dropMissing_37 : decode M_Numbers_dropMissing.2.1 37 = .ok (.iload_n 2, 1) := by decide +kernel
theorem dc_Numbers_dropMissing_38 : decode M_Numbers_dropMissing.2.1 38 = .ok (.aload_n 0, 1) := by decide +kernel
theorem dc_Numbers_dropMissing_39 : decode M_Numbers_dropMissing.2.1 39 = .ok (.getfield 15, 3) := by decide +kernel
theorem dc_Numbers_dropMissing_42 : decode M_Numbers_dropMissing.2.1 42 = .ok (.iload_n 2, 1) := by decide +kernel
theorem dc_Numbers_dropMissing_43 : decode M_Numbers_dropMissing.2.1 43 = .ok (.iconst 1, 1) := by decide +kernel
theorem dc_Numbers_dropMissing_44 : decode M_Numbers_dropMissing.2.1 44 = .ok (.iadd, 1) := by decide +kernel
theorem dc_Numbers_dropMissing_45 : decode M_Numbers_dropMissing.2.1 45 = .ok (.iaload, 1) := by decide +kernel
theorem dc_Numbers_dropMissing_46 : decode M_Numbers_dropMissing.2.1 46 = .ok (.iastore, 1) := by decide +kernel
theorem dc_Numbers_dropMissing_47 : decode M_Numbers_dropMissing.2.1 47 = .ok (.iinc 2 1, 3) := by decide +kernel
theorem dc_Numbers_dropMissing_50 : decode M_Numbers_dropMissing.2.1 50 = .ok (.goto (-25), 3) := by decide +kernel
theorem dc_Numbers_dropMissing_53 : decode M_Numbers_dropMissing.2.1 53 = .ok (.return_, 1) := by decide +kernel
set_option maxRecDepth 20000 in
theorem e_Numbers_dropMissing_0 {d : Nat} {σ : PH} {K : PO → PH → Prop} (x0 : Nat) (x1 : Int32) (h : (if x1 < 0 then K (.inl none) σ else sh σ x0 = (1, 4) ∧ (if x1 < (gI σ 258 x0) then (∀ σ1 : PH, σ1 = pI σ 258 x0 ((gI σ 258 x0) - 1) → PW d M_Numbers_dropMissing 25 [.ref x0, uu, .int x1] [] σ1 K) else K (.inl none) σ))) : PW d M_Numbers_dropMissing 0 [.ref x0, .int x1, uu] [] σ K := by
  refine pw_iload_n dc_Numbers_dropMissing_0 rfl ?_
  refine pw_if_lt (tgt := 12) dc_Numbers_dropMissing_1 (by decide) (fun hc => ?_) (fun hc => ?_)
  · have h := ite_t h hc
    exact pw_vret dc_Numbers_dropMissing_12 rfl h
  · have h := ite_f h hc
    refine pw_iload_n dc_Numbers_dropMissing_4 rfl ?_
    refine pw_aload_n dc_Numbers_dropMissing_5 rfl rfl ?_
    obtain ⟨hs1, h⟩ := h
    refine pw_getI (c := 4) (k := 2) (f := 258) dc_Numbers_dropMissing_6 fl_Numbers_34 rfl rfl hs1 ?_
    refine pw_icmp_lt (tgt := 13) dc_Numbers_dropMissing_9 (by decide) (fun hc => ?_) (fun hc => ?_)
    · have h := ite_t h hc
      refine pw_aload_n dc_Numbers_dropMissing_13 rfl rfl ?_
      refine pw_dup dc_Numbers_dropMissing_14 rfl ?_
      refine pw_getI (c := 4) (k := 2) (f := 258) dc_Numbers_dropMissing_15 fl_Numbers_34 rfl rfl hs1 ?_
      refine pw_iconst (v := 1) dc_Numbers_dropMissing_18 (by decide) ?_
      refine pw_isub dc_Numbers_dropMissing_19 ?_
      have h := h _ rfl
      refine pw_putI (c := 4) (k := 2) (f := 258) dc_Numbers_dropMissing_20 fl_Numbers_34 (Or.inl rfl) rfl rfl hs1 ?_
      refine pw_iload_n dc_Numbers_dropMissing_23 rfl ?_
      refine pw_istore_n dc_Numbers_dropMissing_24 (by decide) ?_
      refine PW.drop (ls' := [.ref x0, uu, .int x1]) ⟨Or.inl rfl, Or.inr rfl, Or.inl rfl, trivial⟩ ?_
      exact h
    · have h := ite_f h hc
      exact pw_vret dc_Numbers_dropMissing_12 rfl h
set_option maxRecDepth 20000 in
theorem e_Numbers_dropMissing_25 {d : Nat} {σ : PH} {K : PO → PH → Prop} (x0 : Nat) (x2 : Int32) (h : sh σ x0 = (1, 4) ∧ (if (gI σ 258 x0) ≤ x2 then K (.inl none) σ else (∃ b1 : Nat, gR σ 257 x0 = some b1 ∧ (∃ n1 : Nat, sh σ b1 = (2, n1) ∧ vp_in (x2 + 1) n1 ∧ vp_in x2 n1 ∧ (∀ σ1 : PH, σ1 = uI σ b1 (ix x2) (eI σ b1 (ix (x2 + 1))) → PW d M_Numbers_dropMissing 25 [.ref x0, uu, .int (x2 + 1)] [] σ1 K))))) : PW d M_Numbers_dropMissing 25 [.ref x0, uu, .int x2] [] σ K := by
  refine pw_iload_n dc_Numbers_dropMissing_25 rfl ?_
  refine pw_aload_n dc_Numbers_dropMissing_26 rfl rfl ?_
  obtain ⟨hs1, h⟩ := h
  refine pw_getI (c := 4) (k := 2) (f := 258) dc_Numbers_dropMissing_27 fl_Numbers_34 rfl rfl hs1 ?_
  refine pw_icmp_ge (tgt := 53) dc_Numbers_dropMissing_30 (by decide) (fun hc => ?_) (fun hc => ?_)
  · have h := ite_t h hc
    exact pw_vret dc_Numbers_dropMissing_53 rfl h
  · have h := ite_f h hc
    refine pw_aload_n dc_Numbers_dropMissing_33 rfl rfl ?_
    refine pw_getR (c := 4) (k := 1) (f := 257) dc_Numbers_dropMissing_34 fl_Numbers_15 rfl rfl hs1 ?_
    obtain ⟨b1, hb1, h⟩ := h
    refine PW.top (v' := .ref b1) (congrArg va_rf hb1) ?_
    refine pw_iload_n dc_Numbers_dropMissing_37 rfl ?_
    refine pw_aload_n dc_Numbers_dropMissing_38 rfl rfl ?_
    refine pw_getR (c := 4) (k := 1) (f := 257) dc_Numbers_dropMissing_39 fl_Numbers_15 rfl rfl hs1 ?_
    refine PW.top (v' := .ref b1) (congrArg va_rf hb1) ?_
    refine pw_iload_n dc_Numbers_dropMissing_42 rfl ?_
    refine pw_iconst (v := 1) dc_Numbers_dropMissing_43 (by decide) ?_
    refine pw_iadd dc_Numbers_dropMissing_44 ?_
    obtain ⟨n1, hs2, h⟩ := h
    obtain ⟨hi1, h⟩ := h
    refine pw_iald dc_Numbers_dropMissing_45 hs2 hi1 ?_
    obtain ⟨hi2, h⟩ := h
    have h := h _ rfl
    refine pw_iast dc_Numbers_dropMissing_46 hs2 hi2 ?_
    refine pw_iincv (v := 1) dc_Numbers_dropMissing_47 (by decide) rfl (by decide) ?_
    refine pw_goto (tgt := 25) dc_Numbers_dropMissing_50 (by decide) ?_
    exact h
theorem dc_Numbers_numberBehind_0 : decode M_Numbers_numberBehind.2.1 0 = .ok (.iload_n 0, 1) := by decide +kernel
theorem dc_Numbers_numberBehind_1 : decode M_Numbers_numberBehind.2.1 1 = .ok (.sipush 999, 3) := by decide +kernel
theorem dc_Numbers_numberBehind_4 : decode M_Numbers_numberBehind.2.1 4 = .ok (.if_icmp .lt 7, 3) := by decide +kernel
theorem dc_Numbers_numberBehind_7 : decode M_Numbers_numberBehind.2.1 7 = .ok (.iconst 1, 1) := by decide +kernel
theorem dc_Numbers_numberBehind_8 : decode M_Numbers_numberBehind.2.1 8 = .ok (.goto 6, 3) := by decide +kernel
theorem dc_Numbers_numberBehind_11 : decode M_Numbers_numberBehind.2.1 11 = .ok (.iload_n 0, 1) := by decide +kernel
theorem dc_Numbers_numberBehind_12 : decode M_Numbers_numberBehind.2.1 12 = .ok (.iconst 1, 1) := by decide +kernel
theorem dc_Numbers_numberBehind_13 : decode M_Numbers_numberBehind.2.1 13 = .ok (.iadd, 1) := by decide +kernel
theorem dc_Numbers_numberBehind_14 : decode M_Numbers_numberBehind.2.1 14 = .ok (.ireturn, 1) := by decide +kernel
set_option maxRecDepth 20000 in
theorem e_Numbers_numberBehind_0 {d : Nat} {σ : PH} {K : PO → PH → Prop} (x0 : Int32) (h : (if x0 < 999 then K (.inl (some (.int (x0 + 1)))) σ else K (.inl (some (.int 1))) σ)) : PW d M_Numbers_numberBehind 0 [.int x0] [] σ K := by
  refine pw_iload_n dc_Numbers_numberBehind_0 rfl ?_
  refine pw_sipush (v := 999) dc_Numbers_numberBehind_1 (by decide) ?_
  refine pw_icmp_lt (tgt := 11) dc_Numbers_numberBehind_4 (by decide) (fun hc => ?_) (fun hc => ?_)
  · have h := ite_t h hc
    refine pw_iload_n dc_Numbers_numberBehind_11 rfl ?_
    refine pw_iconst (v := 1) dc_Numbers_numberBehind_12 (by decide) ?_
    refine pw_iadd dc_Numbers_numberBehind_13 ?_
    exact pw_iret dc_Numbers_numberBehind_14 rfl rfl h
  · have h := ite_f h hc
    refine pw_iconst (v := 1) dc_Numbers_numberBehind_7 (by decide) ?_
    refine pw_goto (tgt := 14) dc_Numbers_numberBehind_8 (by decide) ?_
    exact pw_iret dc_Numbers_numberBehind_14 rfl rfl h
theorem dc_Route_init_0 : decode M_Route_init.2.1 0 = .ok (.aload_n 0, 1) := by decide +kernel
theorem dc_Route_init_1 : decode M_Route_init.2.1 1 = .ok (.invokespecial 3, 3) := by decide +kernel
theorem dc_Route_init_4 : decode M_Route_init.2.1 4 = .ok (.aload_n 0, 1) := by decide +kernel
theorem dc_Route_init_5 : decode M_Route_init.2.1 5 = .ok (.iconst 4, 1) := by decide +kernel
theorem dc_Route_init_6 : decode M_Route_init.2.1 6 = .ok (.newarray .int, 2) := by decide +kernel
theorem dc_Route_init_8 : decode M_Route_init.2.1 8 = .ok (.putfield 9, 3) := by decide +kernel
theorem dc_Route_init_11 : decode M_Route_init.2.1 11 = .ok (.return_, 1) := by decide +kernel
set_option maxRecDepth 20000 in
theorem e_Route_init_0 {d : Nat} {σ : PH} {K : PO → PH → Prop} (x0 : Nat) (h : cc σ + 1 ≤ 601024 ∧ cs σ + 4 ≤ 7293034 ∧ (∀ σ1 : PH, σ1 = mk σ (2, 4) 4 → sh σ1 x0 = (1, 8) ∧ (∀ σ2 : PH, σ2 = pR σ1 515 x0 (some (nx σ)) → K (.inl none) σ2))) : PW (d + 1) M_Route_init 0 [.ref x0] [] σ K := by
  refine pw_aload_n dc_Route_init_0 rfl rfl ?_
  refine pw_objInit dc_Route_init_1 (List.mem_of_getElem? (i := 111) (by decide +kernel)) (List.mem_of_getElem? (i := 91) (by decide +kernel)) (List.mem_of_getElem? (i := 92) (by decide +kernel)) (Nat.le_of_ble_eq_true rfl) ?_
  refine pw_aload_n dc_Route_init_4 rfl rfl ?_
  refine pw_iconst (v := 4) dc_Route_init_5 (by decide) ?_
  refine PW.top (v' := .int (nI 4)) rfl ?_
  obtain ⟨hr1, hr2, h⟩ := h
  have h := h _ rfl
  refine pw_newa (k := 2) (N := 4) dc_Route_init_6 (by unfold nk; decide) rfl (List.mem_of_getElem? (i := 131) (by decide +kernel)) (by decide) hr1 hr2 ?_
  obtain ⟨hs1, h⟩ := h
  have h := h _ rfl
  refine pw_putR (c := 8) (k := 3) (f := 515) (v := some (nx σ)) dc_Route_init_8 fl_Route_9 (Or.inr ⟨rfl, rfl, rfl, List.mem_of_getElem? (i := 115) (by decide +kernel)⟩) rfl rfl hs1 ?_
  exact pw_vret dc_Route_init_11 rfl h
theorem dc_Route_isGroup_0 : decode M_Route_isGroup.2.1 0 = .ok (.aload_n 0, 1) := by decide +kernel
theorem dc_Route_isGroup_1 : decode M_Route_isGroup.2.1 1 = .ok (.getfield 15, 3) := by decide +kernel
theorem dc_Route_isGroup_4 : decode M_Route_isGroup.2.1 4 = .ok (.ifCond .le 7, 3) := by decide +kernel
theorem dc_Route_isGroup_7 : decode M_Route_isGroup.2.1 7 = .ok (.iconst 1, 1) := by decide +kernel
theorem dc_Route_isGroup_8 : decode M_Route_isGroup.2.1 8 = .ok (.goto 4, 3) := by decide +kernel
theorem dc_Route_isGroup_11 : decode M_Route_isGroup.2.1 11 = .ok (.iconst 0, 1) := by decide +kernel
theorem dc_Route_isGroup_12 : decode M_Route_isGroup.2.1 12 = .ok (.ireturn, 1) := by decide +kernel
set_option maxRecDepth 20000 in
theorem e_Route_isGroup_0 {d : Nat} {σ : PH} {K : PO → PH → Prop} (x0 : Nat) (h : sh σ x0 = (1, 8) ∧ (if (gI σ 516 x0) ≤ 0 then K (.inl (some (.int 0))) σ else K (.inl (some (.int 1))) σ)) : PW d M_Route_isGroup 0 [.ref x0] [] σ K := by
  refine pw_aload_n dc_Route_isGroup_0 rfl rfl ?_
  obtain ⟨hs1, h⟩ := h
  refine pw_getI (c := 8) (k := 4) (f := 516) dc_Route_isGroup_1 fl_Route_15 rfl rfl hs1 ?_
  refine pw_if_le (tgt := 11) dc_Route_isGroup_4 (by decide) (fun hc => ?_) (fun hc => ?_)
  · have h := ite_t h hc
    refine pw_iconst (v := 0) dc_Route_isGroup_11 (by decide) ?_
    exact pw_iret dc_Route_isGroup_12 rfl (bo_nar (Or.inl rfl)) h
  · have h := ite_f h hc
    refine pw_iconst (v := 1) dc_Route_isGroup_7 (by decide) ?_
    refine pw_goto (tgt := 12) dc_Route_isGroup_8 (by decide) ?_
    exact pw_iret dc_Route_isGroup_12 rfl (bo_nar (Or.inr rfl)) h
theorem dc_Route_holds_0 : decode M_Route_holds.2.1 0 = .ok (.iconst 0, 1) := by decide +kernel
theorem dc_Route_holds_1 : decode M_Route_holds.2.1 1 = .ok (.istore_n 2, 1) := by decide +kernel
theorem dc_Route_holds_2 : decode M_Route_holds.2.1 2 = .ok (.iload_n 2, 1) := by decide +kernel
theorem dc_Route_holds_3 : decode M_Route_holds.2.1 3 = .ok (.aload_n 0, 1) := by decide +kernel
theorem dc_Route_holds_4 : decode M_Route_holds.2.1 4 = .ok (.getfield 15, 3) := by decide +kernel
theorem dc_Route_holds_7 : decode M_Route_holds.2.1 7 = .ok (.if_icmp .ge 21, 3) := by decide +kernel
theorem dc_Route_holds_10 : decode M_Route_holds.2.1 10 = .ok (.aload_n 0, 1) := by decide +kernel
theorem dc_Route_holds_11 : decode M_Route_holds.2.1 11 = .ok (.getfield 9, 3) := by decide +kernel
theorem dc_Route_holds_14 : decode M_Route_holds.2.1 14 = .ok (.iload_n 2, 1) := by decide +kernel
theorem dc_Route_holds_15 : decode M_Route_holds.2.1 15 = .ok (.iaload, 1) := by decide +kernel
theorem dc_Route_holds_16 : decode M_Route_holds.2.1 16 = .ok (.iload_n 1, 1) := by decide +kernel
theorem dc_Route_holds_17 : decode M_Route_holds.2.1 17 = .ok (.if_icmp .ne 5, 3) := by decide +kernel
theorem dc_Route_holds_20 : decode M_Route_holds.2.1 20 = .ok (.iconst 1, 1) := by decide +kernel
theorem dc_Route_holds_21 : decode M_Route_holds.2.1 21 = .ok (.ireturn, 1) := by decide +kernel
theorem dc_Route_holds_22 : decode M_Route_holds.2.1 22 = .ok (.iinc 2 1, 3) := by decide +kernel
theorem dc_Route_holds_25 : decode M_Route_holds.2.1 25 = .ok (.goto (-23), 3) := by decide +kernel
theorem dc_Route_holds_28 : decode M_Route_holds.2.1 28 = .ok (.iconst 0, 1) := by decide +kernel
theorem dc_Route_holds_29 : decode M_Route_holds.2.1 29 = .ok (.ireturn, 1) := by decide +kernel
set_option maxRecDepth 20000 in
theorem e_Route_holds_0 {d : Nat} {σ : PH} {K : PO → PH → Prop} (x0 : Nat) (x1 : Int32) (h : PW d M_Route_holds 2 [.ref x0, .int x1, .int 0] [] σ K) : PW d M_Route_holds 0 [.ref x0, .int x1, uu] [] σ K := by
  refine pw_iconst (v := 0) dc_Route_holds_0 (by decide) ?_
  refine pw_istore_n dc_Route_holds_1 (by decide) ?_
  exact h
set_option maxRecDepth 20000 in
theorem e_Route_holds_2 {d : Nat} {σ : PH} {K : PO → PH → Prop} (x0 : Nat) (x1 : Int32) (x2 : Int32) (h : sh σ x0 = (1, 8) ∧ (if (gI σ 516 x0) ≤ x2 then K (.inl (some (.int 0))) σ else (∃ b1 : Nat, gR σ 515 x0 = some b1 ∧ (∃ n1 : Nat, sh σ b1 = (2, n1) ∧ vp_in x2 n1 ∧ (if (eI σ b1 (ix x2)) = x1 then K (.inl (some (.int 1))) σ else PW d M_Route_holds 2 [.ref x0, .int x1, .int (x2 + 1)] [] σ K))))) : PW d M_Route_holds 2 [.ref x0, .int x1, .int x2] [] σ K := by
  refine pw_iload_n dc_Route_holds_2 rfl ?_
  refine pw_aload_n dc_Route_holds_3 rfl rfl ?_
  obtain ⟨hs1, h⟩ := h
  refine pw_getI (c := 8) (k := 4) (f := 516) dc_Route_holds_4 fl_Route_15 rfl rfl hs1 ?_
  refine pw_icmp_ge (tgt := 28) dc_Route_holds_7 (by decide) (fun hc => ?_) (fun hc => ?_)
  · have h := ite_t h hc
    refine pw_iconst (v := 0) dc_Route_holds_28 (by decide) ?_
    exact pw_iret dc_Route_holds_29 rfl (bo_nar (Or.inl rfl)) h
  · have h := ite_f h hc
    refine pw_aload_n dc_Route_holds_10 rfl rfl ?_
    refine pw_getR (c := 8) (k := 3) (f := 515) dc_Route_holds_11 fl_Route_9 rfl rfl hs1 ?_
    obtain ⟨b1, hb1, h⟩ := h
    refine PW.top (v' := .ref b1) (congrArg va_rf hb1) ?_
    refine pw_iload_n dc_Route_holds_14 rfl ?_
    obtain ⟨n1, hs2, h⟩ := h
    obtain ⟨hi1, h⟩ := h
    refine pw_iald dc_Route_holds_15 hs2 hi1 ?_
    refine pw_iload_n dc_Route_holds_16 rfl ?_
    refine pw_icmp_ne (tgt := 22) dc_Route_holds_17 (by decide) (fun hc => ?_) (fun hc => ?_)
    · have h := ite_f h hc
      refine pw_iincv (v := 1) dc_Route_holds_22 (by decide) rfl (by decide) ?_
      refine pw_goto (tgt := 2) dc_Route_holds_25 (by decide) ?_
      exact h
    · have h := ite_t h hc
      refine pw_iconst (v := 1) dc_Route_holds_20 (by decide) ?_
      exact pw_iret dc_Route_holds_21 rfl (bo_nar (Or.inr rfl)) h
theorem dc_Route_addMember_0 : decode M_Route_addMember.2.1 0 = .ok (.aload_n 0, 1) := by decide +kernel
theorem dc_Route_addMember_1 : decode M_Route_addMember.2.1 1 = .ok (.getfield 15, 3) := by decide +kernel
theorem dc_Route_addMember_4 : decode M_Route_addMember.2.1 4 = .ok (.iconst 4, 1) := by decide +kernel
theorem dc_Route_addMember_5 : decode M_Route_addMember.2.1 5 = .ok (.if_icmp .ge 23, 3) := by decide +kernel
theorem dc_Route_addMember_8 : decode M_Route_addMember.2.1 8 = .ok (.aload_n 0, 1) := by decide +kernel
theorem dc_Route_addMember_9 : decode M_Route_addMember.2.1 9 = .ok (.getfield 9, 3) := by decide +kernel
theorem dc_Route_addMember_12 : decode M_Route_addMember.2.1 12 = .ok (.aload_n 0, 1) := by decide +kernel
theorem dc_Route_addMember_13 : decode M_Route_addMember.2.1 13 = .ok (.getfield 15, 3) := by decide +kernel
theorem dc_Route_addMember_16 : decode M_Route_addMember.2.1 16 = .ok (.iload_n 1, 1) := by decide +kernel
theorem dc_Route_addMember_17 : decode M_Route_addMember.2.1 17 = .ok (.iastore, 1) := by decide +kernel
theorem dc_Route_addMember_18 : decode M_Route_addMember.2.1 18 = .ok (.aload_n 0, 1) := by decide +kernel
theorem dc_Route_addMember_19 : decode M_Route_addMember.2.1 19 = .ok (.dup, 1) := by decide +kernel
theorem dc_Route_addMember_20 : decode M_Route_addMember.2.1 20 = .ok (.getfield 15, 3) := by decide +kernel
theorem dc_Route_addMember_23 : decode M_Route_addMember.2.1 23 = .ok (.iconst 1, 1) := by decide +kernel
theorem dc_Route_addMember_24 : decode M_Route_addMember.2.1 24 = .ok (.iadd, 1) := by decide +kernel
theorem dc_Route_addMember_25 : decode M_Route_addMember.2.1 25 = .ok (.putfield 15, 3) := by decide +kernel
theorem dc_Route_addMember_28 : decode M_Route_addMember.2.1 28 = .ok (.aload_n 0, 1) := by decide +kernel
theorem dc_Route_addMember_29 : decode M_Route_addMember.2.1 29 = .ok (.getfield 15, 3) := by decide +kernel
theorem dc_Route_addMember_32 : decode M_Route_addMember.2.1 32 = .ok (.ireturn, 1) := by decide +kernel
set_option maxRecDepth 20000 in
theorem e_Route_addMember_0 {d : Nat} {σ : PH} {K : PO → PH → Prop} (x0 : Nat) (x1 : Int32) (h : sh σ x0 = (1, 8) ∧ (if 4 ≤ (gI σ 516 x0) then K (.inl (some (.int (gI σ 516 x0)))) σ else (∃ b1 : Nat, gR σ 515 x0 = some b1 ∧ (∃ n1 : Nat, sh σ b1 = (2, n1) ∧ vp_in (gI σ 516 x0) n1 ∧ (∀ σ1 : PH, σ1 = uI σ b1 (ix (gI σ 516 x0)) x1 → sh σ1 x0 = (1, 8) ∧ (∀ σ2 : PH, σ2 = pI σ1 516 x0 ((gI σ1 516 x0) + 1) → sh σ2 x0 = (1, 8) ∧ K (.inl (some (.int (gI σ2 516 x0)))) σ2)))))) : PW d M_Route_addMember 0 [.ref x0, .int x1] [] σ K := by
  refine pw_aload_n dc_Route_addMember_0 rfl rfl ?_
  obtain ⟨hs1, h⟩ := h
  refine pw_getI (c := 8) (k := 4) (f := 516) dc_Route_addMember_1 fl_Route_15 rfl rfl hs1 ?_
  refine pw_iconst (v := 4) dc_Route_addMember_4 (by decide) ?_
  refine pw_icmp_ge (tgt := 28) dc_Route_addMember_5 (by decide) (fun hc => ?_) (fun hc => ?_)
  · have h := ite_t h hc
    refine pw_aload_n dc_Route_addMember_28 rfl rfl ?_
    refine pw_getI (c := 8) (k := 4) (f := 516) dc_Route_addMember_29 fl_Route_15 rfl rfl hs1 ?_
    exact pw_iret dc_Route_addMember_32 rfl rfl h
  · have h := ite_f h hc
    refine pw_aload_n dc_Route_addMember_8 rfl rfl ?_
    refine pw_getR (c := 8) (k := 3) (f := 515) dc_Route_addMember_9 fl_Route_9 rfl rfl hs1 ?_
    obtain ⟨b1, hb1, h⟩ := h
    refine PW.top (v' := .ref b1) (congrArg va_rf hb1) ?_
    refine pw_aload_n dc_Route_addMember_12 rfl rfl ?_
    refine pw_getI (c := 8) (k := 4) (f := 516) dc_Route_addMember_13 fl_Route_15 rfl rfl hs1 ?_
    refine pw_iload_n dc_Route_addMember_16 rfl ?_
    obtain ⟨n1, hs2, h⟩ := h
    obtain ⟨hi1, h⟩ := h
    have h := h _ rfl
    refine pw_iast dc_Route_addMember_17 hs2 hi1 ?_
    refine pw_aload_n dc_Route_addMember_18 rfl rfl ?_
    refine pw_dup dc_Route_addMember_19 rfl ?_
    obtain ⟨hs3, h⟩ := h
    refine pw_getI (c := 8) (k := 4) (f := 516) dc_Route_addMember_20 fl_Route_15 rfl rfl hs3 ?_
    refine pw_iconst (v := 1) dc_Route_addMember_23 (by decide) ?_
    refine pw_iadd dc_Route_addMember_24 ?_
    have h := h _ rfl
    refine pw_putI (c := 8) (k := 4) (f := 516) dc_Route_addMember_25 fl_Route_15 (Or.inl rfl) rfl rfl hs3 ?_
    refine pw_aload_n dc_Route_addMember_28 rfl rfl ?_
    obtain ⟨hs4, h⟩ := h
    refine pw_getI (c := 8) (k := 4) (f := 516) dc_Route_addMember_29 fl_Route_15 rfl rfl hs4 ?_
    exact pw_iret dc_Route_addMember_32 rfl rfl h
