theorem fl_Header_9 : FL "RelayDesk$Header" 9 10 2 := ⟨by decide, by decide, Or.inl (List.mem_of_getElem? (i := 151) (by decide +kernel))⟩
theorem fl_Header_21 : FL "RelayDesk$Header" 21 10 4 := ⟨by decide, by decide, Or.inl (List.mem_of_getElem? (i := 157) (by decide +kernel))⟩
theorem fl_Header_25 : FL "RelayDesk$Header" 25 10 6 := ⟨by decide, by decide, Or.inl (List.mem_of_getElem? (i := 159) (by decide +kernel))⟩
theorem fl_Header_38 : FL "RelayDesk$Header" 38 10 5 := ⟨by decide, by decide, Or.inl (List.mem_of_getElem? (i := 158) (by decide +kernel))⟩
theorem fl_Header_51 : FL "RelayDesk$Header" 51 10 0 := ⟨by decide, by decide, Or.inl (List.mem_of_getElem? (i := 147) (by decide +kernel))⟩
theorem fl_Header_60 : FL "RelayDesk$Header" 60 10 1 := ⟨by decide, by decide, Or.inl (List.mem_of_getElem? (i := 150) (by decide +kernel))⟩
theorem fl_Header_63 : FL "RelayDesk$Header" 63 10 3 := ⟨by decide, by decide, Or.inl (List.mem_of_getElem? (i := 156) (by decide +kernel))⟩
theorem fl_Intake_14 : FL "RelayDesk$Intake" 14 2 0 := ⟨by decide, by decide, Or.inl (List.mem_of_getElem? (i := 203) (by decide +kernel))⟩
theorem fl_Intake_23 : FL "RelayDesk$Intake" 23 2 1 := ⟨by decide, by decide, Or.inl (List.mem_of_getElem? (i := 204) (by decide +kernel))⟩
theorem fl_Intake_27 : FL "RelayDesk$Intake" 27 2 2 := ⟨by decide, by decide, Or.inl (List.mem_of_getElem? (i := 205) (by decide +kernel))⟩
theorem fl_Intake_31 : FL "RelayDesk$Intake" 31 2 3 := ⟨by decide, by decide, Or.inl (List.mem_of_getElem? (i := 206) (by decide +kernel))⟩
theorem fl_Intake_34 : FL "RelayDesk$Intake" 34 2 4 := ⟨by decide, by decide, Or.inl (List.mem_of_getElem? (i := 207) (by decide +kernel))⟩
theorem fl_Routes_11 : FL "RelayDesk$Routes" 11 9 0 := ⟨by decide, by decide, Or.inl (List.mem_of_getElem? (i := 132) (by decide +kernel))⟩
theorem fl_Routes_18 : FL "RelayDesk$Routes" 18 9 1 := ⟨by decide, by decide, Or.inl (List.mem_of_getElem? (i := 134) (by decide +kernel))⟩
theorem fl_Routes_22 : FL "RelayDesk$Routes" 22 8 0 := ⟨by decide, by decide, Or.inr ⟨"RelayDesk", List.mem_of_getElem? (i := 112) (by decide +kernel)⟩⟩
theorem fl_Routes_31 : FL "RelayDesk$Routes" 31 10 3 := ⟨by decide, by decide, Or.inr ⟨"RelayDesk", List.mem_of_getElem? (i := 155) (by decide +kernel)⟩⟩
theorem fl_Routes_36 : FL "RelayDesk$Routes" 36 10 2 := ⟨by decide, by decide, Or.inr ⟨"RelayDesk", List.mem_of_getElem? (i := 153) (by decide +kernel)⟩⟩
theorem fl_Routes_58 : FL "RelayDesk$Routes" 58 8 4 := ⟨by decide, by decide, Or.inr ⟨"RelayDesk", List.mem_of_getElem? (i := 119) (by decide +kernel)⟩⟩
theorem fl_Routes_61 : FL "RelayDesk$Routes" 61 8 3 := ⟨by decide, by decide, Or.inr ⟨"RelayDesk", List.mem_of_getElem? (i := 116) (by decide +kernel)⟩⟩
theorem dc_Header_init_0 : decode M_Header_init.2.1 0 = .ok (.aload_n 0, 1) := by decide +kernel
theorem dc_Header_init_1 : decode M_Header_init.2.1 1 = .ok (.invokespecial 3, 3) := by decide +kernel
theorem dc_Header_init_4 : decode M_Header_init.2.1 4 = .ok (.aload_n 0, 1) := by decide +kernel
theorem dc_Header_init_5 : decode M_Header_init.2.1 5 = .ok (.iconst 4, 1) := by decide +kernel
theorem dc_Header_init_6 : decode M_Header_init.2.1 6 = .ok (.newarray .int, 2) := by decide +kernel
theorem dc_Header_init_8 : decode M_Header_init.2.1 8 = .ok (.putfield 9, 3) := by decide +kernel
theorem dc_Header_init_11 : decode M_Header_init.2.1 11 = .ok (.return_, 1) := by decide +kernel
set_option maxRecDepth 20000 in
theorem e_Header_init_0 {d : Nat} {σ : PH} {K : PO → PH → Prop} (x0 : Nat) (h : cc σ + 1 ≤ 601024 ∧ cs σ + 4 ≤ 7293034 ∧ (∀ σ1 : PH, σ1 = mk σ (2, 4) 4 → sh σ1 x0 = (1, 10) ∧ (∀ σ2 : PH, σ2 = pR σ1 642 x0 (some (nx σ)) → K (.inl none) σ2))) : PW (d + 1) M_Header_init 0 [.ref x0] [] σ K := by
  refine pw_aload_n dc_Header_init_0 rfl rfl ?_
  refine pw_objInit dc_Header_init_1 (List.mem_of_getElem? (i := 146) (by decide +kernel)) (List.mem_of_getElem? (i := 91) (by decide +kernel)) (List.mem_of_getElem? (i := 92) (by decide +kernel)) (Nat.le_of_ble_eq_true rfl) ?_
  refine pw_aload_n dc_Header_init_4 rfl rfl ?_
  refine pw_iconst (v := 4) dc_Header_init_5 (by decide) ?_
  refine PW.top (v' := .int (nI 4)) rfl ?_
  obtain ⟨hr1, hr2, h⟩ := h
  have h := h _ rfl
  refine pw_newa (k := 2) (N := 4) dc_Header_init_6 (by unfold nk; decide) rfl (List.mem_of_getElem? (i := 131) (by decide +kernel)) (by decide) hr1 hr2 ?_
  obtain ⟨hs1, h⟩ := h
  have h := h _ rfl
  refine pw_putR (c := 10) (k := 2) (f := 642) (v := some (nx σ)) dc_Header_init_8 fl_Header_9 (Or.inr ⟨rfl, rfl, rfl, List.mem_of_getElem? (i := 151) (by decide +kernel)⟩) rfl rfl hs1 ?_
  exact pw_vret dc_Header_init_11 rfl h
theorem dc_Header_faultIn_0 : decode M_Header_faultIn.2.1 0 = .ok (.aload_n 0, 1) := by decide +kernel
theorem dc_Header_faultIn_1 : decode M_Header_faultIn.2.1 1 = .ok (.aload_n 1, 1) := by decide +kernel
theorem dc_Header_faultIn_2 : decode M_Header_faultIn.2.1 2 = .ok (.invokevirtual 15, 3) := by decide +kernel
theorem dc_Header_faultIn_5 : decode M_Header_faultIn.2.1 5 = .ok (.putfield 21, 3) := by decide +kernel
theorem dc_Header_faultIn_8 : decode M_Header_faultIn.2.1 8 = .ok (.aload_n 0, 1) := by decide +kernel
theorem dc_Header_faultIn_9 : decode M_Header_faultIn.2.1 9 = .ok (.iconst 0, 1) := by decide +kernel
theorem dc_Header_faultIn_10 : decode M_Header_faultIn.2.1 10 = .ok (.putfield 25, 3) := by decide +kernel
theorem dc_Header_faultIn_13 : decode M_Header_faultIn.2.1 13 = .ok (.aload_n 0, 1) := by decide +kernel
theorem dc_Header_faultIn_14 : decode M_Header_faultIn.2.1 14 = .ok (.aload_n 1, 1) := by decide +kernel
theorem dc_Header_faultIn_15 : decode M_Header_faultIn.2.1 15 = .ok (.invokevirtual 28, 3) := by decide +kernel
theorem dc_Header_faultIn_18 : decode M_Header_faultIn.2.1 18 = .ok (.ifCond .eq 11, 3) := by decide +kernel
theorem dc_Header_faultIn_21 : decode M_Header_faultIn.2.1 21 = .ok (.aload_n 0, 1) := by decide +kernel
theorem dc_Header_faultIn_22 : decode M_Header_faultIn.2.1 22 = .ok (.aload_n 1, 1) := by decide +kernel
theorem dc_Header_faultIn_23 : decode M_Header_faultIn.2.1 23 = .ok (.invokevirtual 32, 3) := by decide +kernel
theorem dc_Header_faultIn_26 : decode M_Header_faultIn.2.1 26 = .ok (.ifCond .ne 5, 3) := by decide +kernel
theorem dc_Header_faultIn_29 : decode M_Header_faultIn.2.1 29 = .ok (.iconst 1, 1) := by decide +kernel
theorem dc_Header_faultIn_30 : decode M_Header_faultIn.2.1 30 = .ok (.ireturn, 1) := by decide +kernel
theorem dc_Header_faultIn_31 : decode M_Header_faultIn.2.1 31 = .ok (.iload_n 2, 1) := by decide +kernel
theorem dc_Header_faultIn_32 : decode M_Header_faultIn.2.1 32 = .ok (.ifCond .eq 5, 3) := by decide +kernel
theorem dc_Header_faultIn_35 : decode M_Header_faultIn.2.1 35 = .ok (.iconst 2, 1) := by decide +kernel
theorem dc_Header_faultIn_36 : decode M_Header_faultIn.2.1 36 = .ok (.ireturn, 1) := by decide +kernel
theorem dc_Header_faultIn_37 : decode M_Header_faultIn.2.1 37 = .ok (.aload_n 0, 1) := by decide +kernel
theorem dc_Header_faultIn_38 : decode M_Header_faultIn.2.1 38 = .ok (.aload_n 1, 1) := by decide +kernel
theorem dc_Header_faultIn_39 : decode M_Header_faultIn.2.1 39 = .ok (.invokevirtual 28, 3) := by decide +kernel
theorem dc_Header_faultIn_42 : decode M_Header_faultIn.2.1 42 = .ok (.istore_n 3, 1) := by decide +kernel
theorem dc_Header_faultIn_43 : decode M_Header_faultIn.2.1 43 = .ok (.iload_n 3, 1) := by decide +kernel
theorem dc_Header_faultIn_44 : decode M_Header_faultIn.2.1 44 = .ok (.ifCond .eq 30, 3) := by decide +kernel
theorem dc_Header_faultIn_47 : decode M_Header_faultIn.2.1 47 = .ok (.aload_n 0, 1) := by decide +kernel
theorem dc_Header_faultIn_48 : decode M_Header_faultIn.2.1 48 = .ok (.invokevirtual 35, 3) := by decide +kernel
theorem dc_Header_faultIn_51 : decode M_Header_faultIn.2.1 51 = .ok (.iconst 1, 1) := by decide +kernel
theorem dc_Header_faultIn_52 : decode M_Header_faultIn.2.1 52 = .ok (.if_icmp .ne 22, 3) := by decide +kernel
theorem dc_Header_faultIn_55 : decode M_Header_faultIn.2.1 55 = .ok (.aload_n 1, 1) := by decide +kernel
theorem dc_Header_faultIn_56 : decode M_Header_faultIn.2.1 56 = .ok (.aload_n 0, 1) := by decide +kernel
theorem dc_Header_faultIn_57 : decode M_Header_faultIn.2.1 57 = .ok (.getfield 38, 3) := by decide +kernel
theorem dc_Header_faultIn_60 : decode M_Header_faultIn.2.1 60 = .ok (.invokevirtual 41, 3) := by decide +kernel
theorem dc_Header_faultIn_63 : decode M_Header_faultIn.2.1 63 = .ok (.bipush 82, 2) := by decide +kernel
theorem dc_Header_faultIn_65 : decode M_Header_faultIn.2.1 65 = .ok (.if_icmp .ne 9, 3) := by decide +kernel
theorem dc_Header_faultIn_68 : decode M_Header_faultIn.2.1 68 = .ok (.aload_n 0, 1) := by decide +kernel
theorem dc_Header_faultIn_69 : decode M_Header_faultIn.2.1 69 = .ok (.aload_n 1, 1) := by decide +kernel
theorem dc_Header_faultIn_70 : decode M_Header_faultIn.2.1 70 = .ok (.invokevirtual 28, 3) := by decide +kernel
theorem dc_Header_faultIn_73 : decode M_Header_faultIn.2.1 73 = .ok (.istore_n 3, 1) := by decide +kernel
theorem dc_Header_faultIn_74 : decode M_Header_faultIn.2.1 74 = .ok (.iload_n 3, 1) := by decide +kernel
theorem dc_Header_faultIn_75 : decode M_Header_faultIn.2.1 75 = .ok (.ifCond .eq 11, 3) := by decide +kernel
theorem dc_Header_faultIn_78 : decode M_Header_faultIn.2.1 78 = .ok (.aload_n 0, 1) := by decide +kernel
theorem dc_Header_faultIn_79 : decode M_Header_faultIn.2.1 79 = .ok (.aload_n 1, 1) := by decide +kernel
theorem dc_Header_faultIn_80 : decode M_Header_faultIn.2.1 80 = .ok (.invokevirtual 45, 3) := by decide +kernel
theorem dc_Header_faultIn_83 : decode M_Header_faultIn.2.1 83 = .ok (.ifCond .ne 5, 3) := by decide +kernel
theorem dc_Header_faultIn_86 : decode M_Header_faultIn.2.1 86 = .ok (.iconst 3, 1) := by decide +kernel
theorem dc_Header_faultIn_87 : decode M_Header_faultIn.2.1 87 = .ok (.ireturn, 1) := by decide +kernel
theorem dc_Header_faultIn_88 : decode M_Header_faultIn.2.1 88 = .ok (.aload_n 0, 1) := by decide +kernel
theorem dc_Header_faultIn_89 : decode M_Header_faultIn.2.1 89 = .ok (.aload_n 1, 1) := by decide +kernel
theorem dc_Header_faultIn_90 : decode M_Header_faultIn.2.1 90 = .ok (.invokevirtual 48, 3) := by decide +kernel
theorem dc_Header_faultIn_93 : decode M_Header_faultIn.2.1 93 = .ok (.ifCond .eq 7, 3) := by decide +kernel
theorem dc_Header_faultIn_96 : decode M_Header_faultIn.2.1 96 = .ok (.iconst 0, 1) := by decide +kernel
theorem dc_Header_faultIn_97 : decode M_Header_faultIn.2.1 97 = .ok (.goto 4, 3) := by decide +kernel
theorem dc_Header_faultIn_100 : decode M_Header_faultIn.2.1 100 = .ok (.iconst 4, 1) := by decide +kernel
theorem dc_Header_faultIn_101 : decode M_Header_faultIn.2.1 101 = .ok (.ireturn, 1) := by decide +kernel
set_option maxRecDepth 20000 in
theorem e_Header_faultIn_0 {d : Nat} {σ : PH} {K : PO → PH → Prop} (x0 : Nat) (x1 : Nat) (x2 : Int32) (h : sh σ x1 = (1, 3) ∧ PW d M_Text_firstLineEnd 0 [.ref x1, uu] [] σ (kI (fun r1 σ1 => sh σ1 x0 = (1, 10) ∧ (∀ σ2 : PH, σ2 = pI σ1 644 x0 r1 → sh σ2 x0 = (1, 10) ∧ (∀ σ3 : PH, σ3 = pI σ2 646 x0 0 → sh σ3 x0 = (1, 10) ∧ PW d M_Header_hasNextWord 0 [.ref x0, .ref x1] [] σ3 (kI (fun r2 σ4 => (if r2 = 0 then K (.inl (some (.int 1))) σ4 else sh σ4 x0 = (1, 10) ∧ PW d M_Header_isNumber 0 [.ref x0, .ref x1, uu] [] σ4 (kI (fun r3 σ5 => (if r3 = 0 then K (.inl (some (.int 1))) σ5 else (if x2 = 0 then sh σ5 x0 = (1, 10) ∧ PW d M_Header_hasNextWord 0 [.ref x0, .ref x1] [] σ5 (kI (fun r4 σ6 => (if r4 = 0 then PW (d + 1) M_Header_faultIn 74 [.ref x0, .ref x1, uu, .int r4] [] σ6 K else sh σ6 x0 = (1, 10) ∧ PW d M_Header_wordLength 0 [.ref x0] [] σ6 (kI (fun r5 σ7 => (if r5 = 1 then sh σ7 x0 = (1, 10) ∧ sh σ7 x1 = (1, 3) ∧ PW d M_Text_at 0 [.ref x1, .int (gI σ7 645 x0)] [] σ7 (kI (fun r6 σ8 => (if r6 = 82 then sh σ8 x0 = (1, 10) ∧ PW d M_Header_hasNextWord 0 [.ref x0, .ref x1] [] σ8 (kI (fun r7 σ9 => PW (d + 1) M_Header_faultIn 74 [.ref x0, .ref x1, uu, .int r7] [] σ9 K) K) else PW (d + 1) M_Header_faultIn 74 [.ref x0, .ref x1, uu, .int r4] [] σ8 K)) K) else PW (d + 1) M_Header_faultIn 74 [.ref x0, .ref x1, uu, .int r4] [] σ7 K)) K))) K) else K (.inl (some (.int 2))) σ5))) K))) K)))) K)) : PW (d + 1) M_Header_faultIn 0 [.ref x0, .ref x1, .int x2, uu] [] σ K := by
  refine pw_aload_n dc_Header_faultIn_0 rfl rfl ?_
  refine pw_aload_n dc_Header_faultIn_1 rfl rfl ?_
  obtain ⟨hs1, h⟩ := h
  refine pw_callV (vs := []) (st := [.ref x0]) (b := x1) (cn := 3) dc_Header_faultIn_2 cq_Text_firstLineEnd (List.mem_of_getElem? (i := 555) (by decide +kernel)) (List.mem_of_getElem? (i := 556) (by decide +kernel)) (List.mem_of_getElem? (i := 554) (by decide +kernel)) rfl hs1 rfl rfl (by decide) (cat_nil) (Nat.le_of_ble_eq_true rfl) (PW.mono (kI_kN (fun r1 σ1 h => ?_)) h)
  obtain ⟨hs2, h⟩ := h
  have h := h _ rfl
  refine pw_putI (c := 10) (k := 4) (f := 644) dc_Header_faultIn_5 fl_Header_21 (Or.inl rfl) rfl rfl hs2 ?_
  refine pw_aload_n dc_Header_faultIn_8 rfl rfl ?_
  refine pw_iconst (v := 0) dc_Header_faultIn_9 (by decide) ?_
  obtain ⟨hs3, h⟩ := h
  have h := h _ rfl
  refine pw_putI (c := 10) (k := 6) (f := 646) dc_Header_faultIn_10 fl_Header_25 (Or.inl rfl) rfl rfl hs3 ?_
  refine pw_aload_n dc_Header_faultIn_13 rfl rfl ?_
  refine pw_aload_n dc_Header_faultIn_14 rfl rfl ?_
  obtain ⟨hs4, h⟩ := h
  refine pw_callV (vs := [.ref x1]) (st := []) (b := x0) (cn := 10) dc_Header_faultIn_15 cq_Header_hasNextWord (List.mem_of_getElem? (i := 560) (by decide +kernel)) (List.mem_of_getElem? (i := 4) (by decide +kernel)) (List.mem_of_getElem? (i := 558) (by decide +kernel)) rfl hs4 rfl rfl (by decide) (cat_cons rfl (cat_nil)) (Nat.le_of_ble_eq_true rfl) (PW.mono (kI_kN (fun r2 σ4 h => ?_)) h)
  refine pw_if_eq (tgt := 29) dc_Header_faultIn_18 (by decide) (fun hc => ?_) (fun hc => ?_)
  · have h := ite_t h hc
    refine pw_iconst (v := 1) dc_Header_faultIn_29 (by decide) ?_
    exact pw_iret dc_Header_faultIn_30 rfl rfl h
  · have h := ite_f h hc
    refine pw_aload_n dc_Header_faultIn_21 rfl rfl ?_
    refine pw_aload_n dc_Header_faultIn_22 rfl rfl ?_
    obtain ⟨hs5, h⟩ := h
    refine pw_callV (vs := [.ref x1]) (st := []) (b := x0) (cn := 10) dc_Header_faultIn_23 cq_Header_isNumber (List.mem_of_getElem? (i := 568) (by decide +kernel)) (List.mem_of_getElem? (i := 5) (by decide +kernel)) (List.mem_of_getElem? (i := 566) (by decide +kernel)) rfl hs5 rfl rfl (by decide) (cat_cons rfl (cat_nil)) (Nat.le_of_ble_eq_true rfl) (PW.mono (kI_kN (fun r3 σ5 h => ?_)) h)
    refine pw_if_ne (tgt := 31) dc_Header_faultIn_26 (by decide) (fun hc => ?_) (fun hc => ?_)
    · have h := ite_f h hc
      refine pw_iload_n dc_Header_faultIn_31 rfl ?_
      refine pw_if_eq (tgt := 37) dc_Header_faultIn_32 (by decide) (fun hc => ?_) (fun hc => ?_)
      · have h := ite_t h hc
        refine pw_aload_n dc_Header_faultIn_37 rfl rfl ?_
        refine pw_aload_n dc_Header_faultIn_38 rfl rfl ?_
        obtain ⟨hs6, h⟩ := h
        refine pw_callV (vs := [.ref x1]) (st := []) (b := x0) (cn := 10) dc_Header_faultIn_39 cq_Header_hasNextWord (List.mem_of_getElem? (i := 560) (by decide +kernel)) (List.mem_of_getElem? (i := 4) (by decide +kernel)) (List.mem_of_getElem? (i := 558) (by decide +kernel)) rfl hs6 rfl rfl (by decide) (cat_cons rfl (cat_nil)) (Nat.le_of_ble_eq_true rfl) (PW.mono (kI_kN (fun r4 σ6 h => ?_)) h)
        refine pw_istore_n dc_Header_faultIn_42 (by decide) ?_
        refine pw_iload_n dc_Header_faultIn_43 rfl ?_
        refine pw_if_eq (tgt := 74) dc_Header_faultIn_44 (by decide) (fun hc => ?_) (fun hc => ?_)
        · have h := ite_t h hc
          refine PW.drop (ls' := [.ref x0, .ref x1, uu, .int r4]) ⟨Or.inl rfl, Or.inl rfl, Or.inr rfl, Or.inl rfl, trivial⟩ ?_
          exact h
        · have h := ite_f h hc
          refine pw_aload_n dc_Header_faultIn_47 rfl rfl ?_
          obtain ⟨hs7, h⟩ := h
          refine pw_callV (vs := []) (st := []) (b := x0) (cn := 10) dc_Header_faultIn_48 cq_Header_wordLength (List.mem_of_getElem? (i := 572) (by decide +kernel)) (List.mem_of_getElem? (i := 6) (by decide +kernel)) (List.mem_of_getElem? (i := 570) (by decide +kernel)) rfl hs7 rfl rfl (by decide) (cat_nil) (Nat.le_of_ble_eq_true rfl) (PW.mono (kI_kN (fun r5 σ7 h => ?_)) h)
          refine pw_iconst (v := 1) dc_Header_faultIn_51 (by decide) ?_
          refine pw_icmp_ne (tgt := 74) dc_Header_faultIn_52 (by decide) (fun hc => ?_) (fun hc => ?_)
          · have h := ite_f h hc
            refine PW.drop (ls' := [.ref x0, .ref x1, uu, .int r4]) ⟨Or.inl rfl, Or.inl rfl, Or.inr rfl, Or.inl rfl, trivial⟩ ?_
            exact h
          · have h := ite_t h hc
            refine pw_aload_n dc_Header_faultIn_55 rfl rfl ?_
            refine pw_aload_n dc_Header_faultIn_56 rfl rfl ?_
            obtain ⟨hs8, h⟩ := h
            refine pw_getI (c := 10) (k := 5) (f := 645) dc_Header_faultIn_57 fl_Header_38 rfl rfl hs8 ?_
            obtain ⟨hs9, h⟩ := h
            refine pw_callV (vs := [.int (gI σ7 645 x0)]) (st := []) (b := x1) (cn := 3) dc_Header_faultIn_60 cq_Text_at (List.mem_of_getElem? (i := 563) (by decide +kernel)) (List.mem_of_getElem? (i := 564) (by decide +kernel)) (List.mem_of_getElem? (i := 562) (by decide +kernel)) rfl hs9 rfl rfl (by decide) (cat_cons rfl (cat_nil)) (Nat.le_of_ble_eq_true rfl) (PW.mono (kI_kN (fun r6 σ8 h => ?_)) h)
            refine pw_bipush (v := 82) dc_Header_faultIn_63 (by decide) ?_
            refine pw_icmp_ne (tgt := 74) dc_Header_faultIn_65 (by decide) (fun hc => ?_) (fun hc => ?_)
            · have h := ite_f h hc
              refine PW.drop (ls' := [.ref x0, .ref x1, uu, .int r4]) ⟨Or.inl rfl, Or.inl rfl, Or.inr rfl, Or.inl rfl, trivial⟩ ?_
              exact h
            · have h := ite_t h hc
              refine pw_aload_n dc_Header_faultIn_68 rfl rfl ?_
              refine pw_aload_n dc_Header_faultIn_69 rfl rfl ?_
              obtain ⟨hs10, h⟩ := h
              refine pw_callV (vs := [.ref x1]) (st := []) (b := x0) (cn := 10) dc_Header_faultIn_70 cq_Header_hasNextWord (List.mem_of_getElem? (i := 560) (by decide +kernel)) (List.mem_of_getElem? (i := 4) (by decide +kernel)) (List.mem_of_getElem? (i := 558) (by decide +kernel)) rfl hs10 rfl rfl (by decide) (cat_cons rfl (cat_nil)) (Nat.le_of_ble_eq_true rfl) (PW.mono (kI_kN (fun r7 σ9 h => ?_)) h)
              refine pw_istore_n dc_Header_faultIn_73 (by decide) ?_
              refine PW.drop (ls' := [.ref x0, .ref x1, uu, .int r7]) ⟨Or.inl rfl, Or.inl rfl, Or.inr rfl, Or.inl rfl, trivial⟩ ?_
              exact h
      · have h := ite_f h hc
        refine pw_iconst (v := 2) dc_Header_faultIn_35 (by decide) ?_
        exact pw_iret dc_Header_faultIn_36 rfl rfl h
    · have h := ite_t h hc
      refine pw_iconst (v := 1) dc_Header_faultIn_29 (by decide) ?_
      exact pw_iret dc_Header_faultIn_30 rfl rfl h
set_option maxRecDepth 20000 in
theorem e_Header_faultIn_74 {d : Nat} {σ : PH} {K : PO → PH → Prop} (x0 : Nat) (x1 : Nat) (x3 : Int32) (h : (if x3 = 0 then K (.inl (some (.int 3))) σ else sh σ x0 = (1, 10) ∧ PW d M_Header_isPrecedence 0 [.ref x0, .ref x1] [] σ (kI (fun r1 σ1 => (if r1 = 0 then K (.inl (some (.int 3))) σ1 else sh σ1 x0 = (1, 10) ∧ PW d M_Header_readsIndicators 0 [.ref x0, .ref x1, uu] [] σ1 (kI (fun r2 σ2 => (if r2 = 0 then K (.inl (some (.int 4))) σ2 else K (.inl (some (.int 0))) σ2)) K))) K))) : PW (d + 1) M_Header_faultIn 74 [.ref x0, .ref x1, uu, .int x3] [] σ K := by
  refine pw_iload_n dc_Header_faultIn_74 rfl ?_
  refine pw_if_eq (tgt := 86) dc_Header_faultIn_75 (by decide) (fun hc => ?_) (fun hc => ?_)
  · have h := ite_t h hc
    refine pw_iconst (v := 3) dc_Header_faultIn_86 (by decide) ?_
    exact pw_iret dc_Header_faultIn_87 rfl rfl h
  · have h := ite_f h hc
    refine pw_aload_n dc_Header_faultIn_78 rfl rfl ?_
    refine pw_aload_n dc_Header_faultIn_79 rfl rfl ?_
    obtain ⟨hs1, h⟩ := h
    refine pw_callV (vs := [.ref x1]) (st := []) (b := x0) (cn := 10) dc_Header_faultIn_80 cq_Header_isPrecedence (List.mem_of_getElem? (i := 579) (by decide +kernel)) (List.mem_of_getElem? (i := 7) (by decide +kernel)) (List.mem_of_getElem? (i := 577) (by decide +kernel)) rfl hs1 rfl rfl (by decide) (cat_cons rfl (cat_nil)) (Nat.le_of_ble_eq_true rfl) (PW.mono (kI_kN (fun r1 σ1 h => ?_)) h)
    refine pw_if_ne (tgt := 88) dc_Header_faultIn_83 (by decide) (fun hc => ?_) (fun hc => ?_)
    · have h := ite_f h hc
      refine pw_aload_n dc_Header_faultIn_88 rfl rfl ?_
      refine pw_aload_n dc_Header_faultIn_89 rfl rfl ?_
      obtain ⟨hs2, h⟩ := h
      refine pw_callV (vs := [.ref x1]) (st := []) (b := x0) (cn := 10) dc_Header_faultIn_90 cq_Header_readsIndicators (List.mem_of_getElem? (i := 583) (by decide +kernel)) (List.mem_of_getElem? (i := 8) (by decide +kernel)) (List.mem_of_getElem? (i := 581) (by decide +kernel)) rfl hs2 rfl rfl (by decide) (cat_cons rfl (cat_nil)) (Nat.le_of_ble_eq_true rfl) (PW.mono (kI_kN (fun r2 σ2 h => ?_)) h)
      refine pw_if_eq (tgt := 100) dc_Header_faultIn_93 (by decide) (fun hc => ?_) (fun hc => ?_)
      · have h := ite_t h hc
        refine pw_iconst (v := 4) dc_Header_faultIn_100 (by decide) ?_
        exact pw_iret dc_Header_faultIn_101 rfl rfl h
      · have h := ite_f h hc
        refine pw_iconst (v := 0) dc_Header_faultIn_96 (by decide) ?_
        refine pw_goto (tgt := 101) dc_Header_faultIn_97 (by decide) ?_
        exact pw_iret dc_Header_faultIn_101 rfl rfl h
    · have h := ite_t h hc
      refine pw_iconst (v := 3) dc_Header_faultIn_86 (by decide) ?_
      exact pw_iret dc_Header_faultIn_87 rfl rfl h
theorem dc_Header_bodyStart_0 : decode M_Header_bodyStart.2.1 0 = .ok (.aload_n 0, 1) := by decide +kernel
theorem dc_Header_bodyStart_1 : decode M_Header_bodyStart.2.1 1 = .ok (.getfield 21, 3) := by decide +kernel
theorem dc_Header_bodyStart_4 : decode M_Header_bodyStart.2.1 4 = .ok (.iconst 1, 1) := by decide +kernel
theorem dc_Header_bodyStart_5 : decode M_Header_bodyStart.2.1 5 = .ok (.iadd, 1) := by decide +kernel
theorem dc_Header_bodyStart_6 : decode M_Header_bodyStart.2.1 6 = .ok (.ireturn, 1) := by decide +kernel
set_option maxRecDepth 20000 in
theorem e_Header_bodyStart_0 {d : Nat} {σ : PH} {K : PO → PH → Prop} (x0 : Nat) (h : sh σ x0 = (1, 10) ∧ K (.inl (some (.int ((gI σ 644 x0) + 1)))) σ) : PW d M_Header_bodyStart 0 [.ref x0] [] σ K := by
  refine pw_aload_n dc_Header_bodyStart_0 rfl rfl ?_
  obtain ⟨hs1, h⟩ := h
  refine pw_getI (c := 10) (k := 4) (f := 644) dc_Header_bodyStart_1 fl_Header_21 rfl rfl hs1 ?_
  refine pw_iconst (v := 1) dc_Header_bodyStart_4 (by decide) ?_
  refine pw_iadd dc_Header_bodyStart_5 ?_
  exact pw_iret dc_Header_bodyStart_6 rfl rfl h
theorem dc_Header_hasNextWord_0 : decode M_Header_hasNextWord.2.1 0 = .ok (.aload_n 0, 1) := by decide +kernel
theorem dc_Header_hasNextWord_1 : decode M_Header_hasNextWord.2.1 1 = .ok (.aload_n 0, 1) := by decide +kernel
theorem dc_Header_hasNextWord_2 : decode M_Header_hasNextWord.2.1 2 = .ok (.getfield 25, 3) := by decide +kernel
theorem dc_Header_hasNextWord_5 : decode M_Header_hasNextWord.2.1 5 = .ok (.putfield 38, 3) := by decide +kernel
theorem dc_Header_hasNextWord_8 : decode M_Header_hasNextWord.2.1 8 = .ok (.aload_n 0, 1) := by decide +kernel
theorem dc_Header_hasNextWord_9 : decode M_Header_hasNextWord.2.1 9 = .ok (.getfield 38, 3) := by decide +kernel
theorem dc_Header_hasNextWord_12 : decode M_Header_hasNextWord.2.1 12 = .ok (.aload_n 0, 1) := by decide +kernel
theorem dc_Header_hasNextWord_13 : decode M_Header_hasNextWord.2.1 13 = .ok (.getfield 21, 3) := by decide +kernel
theorem dc_Header_hasNextWord_16 : decode M_Header_hasNextWord.2.1 16 = .ok (.if_icmp .ge 29, 3) := by decide +kernel
theorem dc_Header_hasNextWord_19 : decode M_Header_hasNextWord.2.1 19 = .ok (.aload_n 1, 1) := by decide +kernel
theorem dc_Header_hasNextWord_20 : decode M_Header_hasNextWord.2.1 20 = .ok (.aload_n 0, 1) := by decide +kernel
theorem dc_Header_hasNextWord_21 : decode M_Header_hasNextWord.2.1 21 = .ok (.getfield 38, 3) := by decide +kernel
theorem dc_Header_hasNextWord_24 : decode M_Header_hasNextWord.2.1 24 = .ok (.invokevirtual 41, 3) := by decide +kernel
theorem dc_Header_hasNextWord_27 : decode M_Header_hasNextWord.2.1 27 = .ok (.bipush 32, 2) := by decide +kernel
theorem dc_Header_hasNextWord_29 : decode M_Header_hasNextWord.2.1 29 = .ok (.if_icmp .ne 16, 3) := by decide +kernel
theorem dc_Header_hasNextWord_32 : decode M_Header_hasNextWord.2.1 32 = .ok (.aload_n 0, 1) := by decide +kernel
theorem dc_Header_hasNextWord_33 : decode M_Header_hasNextWord.2.1 33 = .ok (.dup, 1) := by decide +kernel
theorem dc_Header_hasNextWord_34 : decode M_Header_hasNextWord.2.1 34 = .ok (.getfield 38, 3) := by decide +kernel
theorem dc_Header_hasNextWord_37 : decode M_Header_hasNextWord.2.1 37 = .ok (.iconst 1, 1) := by decide +kernel
theorem dc_Header_hasNextWord_38 : decode M_Header_hasNextWord.2.1 38 = .ok (.iadd, 1) := by decide +kernel
theorem dc_Header_hasNextWord_39 : decode M_Header_hasNextWord.2.1 39 = .ok (.putfield 38, 3) := by decide +kernel
theorem dc_Header_hasNextWord_42 : decode M_Header_hasNextWord.2.1 42 = .ok (.goto (-34), 3) := by decide +kernel
theorem dc_Header_hasNextWord_45 : decode M_Header_hasNextWord.2.1 45 = .ok (.aload_n 0, 1) := by decide +kernel
theorem dc_Header_hasNextWord_46 : decode M_Header_hasNextWord.2.1 46 = .ok (.aload_n 0, 1) := by decide +kernel
theorem dc_Header_hasNextWord_47 : decode M_Header_hasNextWord.2.1 47 = .ok (.getfield 38, 3) := by decide +kernel
theorem dc_Header_hasNextWord_50 : decode M_Header_hasNextWord.2.1 50 = .ok (.putfield 25, 3) := by decide +kernel
theorem dc_Header_hasNextWord_53 : decode M_Header_hasNextWord.2.1 53 = .ok (.aload_n 0, 1) := by decide +kernel
theorem dc_Header_hasNextWord_54 : decode M_Header_hasNextWord.2.1 54 = .ok (.getfield 25, 3) := by decide +kernel
theorem dc_Header_hasNextWord_57 : decode M_Header_hasNextWord.2.1 57 = .ok (.aload_n 0, 1) := by decide +kernel
theorem dc_Header_hasNextWord_58 : decode M_Header_hasNextWord.2.1 58 = .ok (.getfield 21, 3) := by decide +kernel
theorem dc_Header_hasNextWord_61 : decode M_Header_hasNextWord.2.1 61 = .ok (.if_icmp .ge 29, 3) := by decide +kernel
theorem dc_Header_hasNextWord_64 : decode M_Header_hasNextWord.2.1 64 = .ok (.aload_n 1, 1) := by decide +kernel
theorem dc_Header_hasNextWord_65 : decode M_Header_hasNextWord.2.1 65 = .ok (.aload_n 0, 1) := by decide +kernel
theorem dc_Header_hasNextWord_66 : decode M_Header_hasNextWord.2.1 66 = .ok (.getfield 25, 3) := by decide +kernel
theorem dc_Header_hasNextWord_69 : decode M_Header_hasNextWord.2.1 69 = .ok (.invokevirtual 41, 3) := by decide +kernel
theorem dc_Header_hasNextWord_72 : decode M_Header_hasNextWord.2.1 72 = .ok (.bipush 32, 2) := by decide +kernel
theorem dc_Header_hasNextWord_74 : decode M_Header_hasNextWord.2.1 74 = .ok (.if_icmp .eq 16, 3) := by decide +kernel
theorem dc_Header_hasNextWord_77 : decode M_Header_hasNextWord.2.1 77 = .ok (.aload_n 0, 1) := by decide +kernel
theorem dc_Header_hasNextWord_78 : decode M_Header_hasNextWord.2.1 78 = .ok (.dup, 1) := by decide +kernel
theorem dc_Header_hasNextWord_79 : decode M_Header_hasNextWord.2.1 79 = .ok (.getfield 25, 3) := by decide +kernel
theorem dc_Header_hasNextWord_82 : decode M_Header_hasNextWord.2.1 82 = .ok (.iconst 1, 1) := by decide +kernel
theorem dc_Header_hasNextWord_83 : decode M_Header_hasNextWord.2.1 83 = .ok (.iadd, 1) := by decide +kernel
theorem dc_Header_hasNextWord_84 : decode M_Header_hasNextWord.2.1 84 = .ok (.putfield 25, 3) := by decide +kernel
theorem dc_Header_hasNextWord_87 : decode M_Header_hasNextWord.2.1 87 = .ok (.goto (-34), 3) := by decide +kernel
theorem dc_Header_hasNextWord_90 : decode M_Header_hasNextWord.2.1 90 = .ok (.aload_n 0, 1) := by decide +kernel
theorem dc_Header_hasNextWord_91 : decode M_Header_hasNextWord.2.1 91 = .ok (.getfield 25, 3) := by decide +kernel
theorem dc_Header_hasNextWord_94 : decode M_Header_hasNextWord.2.1 94 = .ok (.aload_n 0, 1) := by decide +kernel
theorem dc_Header_hasNextWord_95 : decode M_Header_hasNextWord.2.1 95 = .ok (.getfield 38, 3) := by decide +kernel
theorem dc_Header_hasNextWord_98 : decode M_Header_hasNextWord.2.1 98 = .ok (.if_icmp .le 7, 3) := by decide +kernel
theorem dc_Header_hasNextWord_101 : decode M_Header_hasNextWord.2.1 101 = .ok (.iconst 1, 1) := by decide +kernel
theorem dc_Header_hasNextWord_102 : decode M_Header_hasNextWord.2.1 102 = .ok (.goto 4, 3) := by decide +kernel
theorem dc_Header_hasNextWord_105 : decode M_Header_hasNextWord.2.1 105 = .ok (.iconst 0, 1) := by decide +kernel
theorem dc_Header_hasNextWord_106 : decode M_Header_hasNextWord.2.1 106 = .ok (.ireturn, 1) := by decide +kernel
set_option maxRecDepth 20000 in
theorem e_Header_hasNextWord_0 {d : Nat} {σ : PH} {K : PO → PH → Prop} (x0 : Nat) (x1 : Nat) (h : sh σ x0 = (1, 10) ∧ (∀ σ1 : PH, σ1 = pI σ 645 x0 (gI σ 646 x0) → PW (d + 1) M_Header_hasNextWord 8 [.ref x0, .ref x1] [] σ1 K)) : PW (d + 1) M_Header_hasNextWord 0 [.ref x0, .ref x1] [] σ K := by
  refine pw_aload_n dc_Header_hasNextWord_0 rfl rfl ?_
  refine pw_aload_n dc_Header_hasNextWord_1 rfl rfl ?_
  obtain ⟨hs1, h⟩ := h
  refine pw_getI (c := 10) (k := 6) (f := 646) dc_Header_hasNextWord_2 fl_Header_25 rfl rfl hs1 ?_
  have h := h _ rfl
  refine pw_putI (c := 10) (k := 5) (f := 645) dc_Header_hasNextWord_5 fl_Header_38 (Or.inl rfl) rfl rfl hs1 ?_
  exact h
set_option maxRecDepth 20000 in
theorem e_Header_hasNextWord_8 {d : Nat} {σ : PH} {K : PO → PH → Prop} (x0 : Nat) (x1 : Nat) (h : sh σ x0 = (1, 10) ∧ (if (gI σ 644 x0) ≤ (gI σ 645 x0) then PW (d + 1) M_Header_hasNextWord 45 [.ref x0, .ref x1] [] σ K else sh σ x1 = (1, 3) ∧ PW d M_Text_at 0 [.ref x1, .int (gI σ 645 x0)] [] σ (kI (fun r1 σ1 => (if r1 = 32 then sh σ1 x0 = (1, 10) ∧ (∀ σ2 : PH, σ2 = pI σ1 645 x0 ((gI σ1 645 x0) + 1) → PW (d + 1) M_Header_hasNextWord 8 [.ref x0, .ref x1] [] σ2 K) else PW (d + 1) M_Header_hasNextWord 45 [.ref x0, .ref x1] [] σ1 K)) K))) : PW (d + 1) M_Header_hasNextWord 8 [.ref x0, .ref x1] [] σ K := by
  refine pw_aload_n dc_Header_hasNextWord_8 rfl rfl ?_
  obtain ⟨hs1, h⟩ := h
  refine pw_getI (c := 10) (k := 5) (f := 645) dc_Header_hasNextWord_9 fl_Header_38 rfl rfl hs1 ?_
  refine pw_aload_n dc_Header_hasNextWord_12 rfl rfl ?_
  refine pw_getI (c := 10) (k := 4) (f := 644) dc_Header_hasNextWord_13 fl_Header_21 rfl rfl hs1 ?_
  refine pw_icmp_ge (tgt := 45) dc_Header_hasNextWord_16 (by decide) (fun hc => ?_) (fun hc => ?_)
  · have h := ite_t h hc
    exact h
  · have h := ite_f h hc
    refine pw_aload_n dc_Header_hasNextWord_19 rfl rfl ?_
    refine pw_aload_n dc_Header_hasNextWord_20 rfl rfl ?_
    refine pw_getI (c := 10) (k := 5) (f := 645) dc_Header_hasNextWord_21 fl_Header_38 rfl rfl hs1 ?_
    obtain ⟨hs2, h⟩ := h
    refine pw_callV (vs := [.int (gI σ 645 x0)]) (st := []) (b := x1) (cn := 3) dc_Header_hasNextWord_24 cq_Text_at (List.mem_of_getElem? (i := 563) (by decide +kernel)) (List.mem_of_getElem? (i := 564) (by decide +kernel)) (List.mem_of_getElem? (i := 562) (by decide +kernel)) rfl hs2 rfl rfl (by decide) (cat_cons rfl (cat_nil)) (Nat.le_of_ble_eq_true rfl) (PW.mono (kI_kN (fun r1 σ1 h => ?_)) h)
    refine pw_bipush (v := 32) dc_Header_hasNextWord_27 (by decide) ?_
    refine pw_icmp_ne (tgt := 45) dc_Header_hasNextWord_29 (by decide) (fun hc => ?_) (fun hc => ?_)
    · have h := ite_f h hc
      exact h
    · have h := ite_t h hc
      refine pw_aload_n dc_Header_hasNextWord_32 rfl rfl ?_
      refine pw_dup dc_Header_hasNextWord_33 rfl ?_
      obtain ⟨hs3, h⟩ := h
      refine pw_getI (c := 10) (k := 5) (f := 645) dc_Header_hasNextWord_34 fl_Header_38 rfl rfl hs3 ?_
      refine pw_iconst (v := 1) dc_Header_hasNextWord_37 (by decide) ?_
      refine pw_iadd dc_Header_hasNextWord_38 ?_
      have h := h _ rfl
      refine pw_putI (c := 10) (k := 5) (f := 645) dc_Header_hasNextWord_39 fl_Header_38 (Or.inl rfl) rfl rfl hs3 ?_
      refine pw_goto (tgt := 8) dc_Header_hasNextWord_42 (by decide) ?_
      exact h
set_option maxRecDepth 20000 in
theorem e_Header_hasNextWord_45 {d : Nat} {σ : PH} {K : PO → PH → Prop} (x0 : Nat) (x1 : Nat) (h : sh σ x0 = (1, 10) ∧ (∀ σ1 : PH, σ1 = pI σ 646 x0 (gI σ 645 x0) → PW (d + 1) M_Header_hasNextWord 53 [.ref x0, .ref x1] [] σ1 K)) : PW (d + 1) M_Header_hasNextWord 45 [.ref x0, .ref x1] [] σ K := by
  refine pw_aload_n dc_Header_hasNextWord_45 rfl rfl ?_
  refine pw_aload_n dc_Header_hasNextWord_46 rfl rfl ?_
  obtain ⟨hs1, h⟩ := h
  refine pw_getI (c := 10) (k := 5) (f := 645) dc_Header_hasNextWord_47 fl_Header_38 rfl rfl hs1 ?_
  have h := h _ rfl
  refine pw_putI (c := 10) (k := 6) (f := 646) dc_Header_hasNextWord_50 fl_Header_25 (Or.inl rfl) rfl rfl hs1 ?_
  exact h
set_option maxRecDepth 20000 in
theorem e_Header_hasNextWord_53 {d : Nat} {σ : PH} {K : PO → PH → Prop} (x0 : Nat) (x1 : Nat) (h : sh σ x0 = (1, 10) ∧ (if (gI σ 644 x0) ≤ (gI σ 646 x0) then PW (d + 1) M_Header_hasNextWord 90 [.ref x0, uu] [] σ K else sh σ x1 = (1, 3) ∧ PW d M_Text_at 0 [.ref x1, .int (gI σ 646 x0)] [] σ (kI (fun r1 σ1 => (if r1 = 32 then PW (d + 1) M_Header_hasNextWord 90 [.ref x0, uu] [] σ1 K else sh σ1 x0 = (1, 10) ∧ (∀ σ2 : PH, σ2 = pI σ1 646 x0 ((gI σ1 646 x0) + 1) → PW (d + 1) M_Header_hasNextWord 53 [.ref x0, .ref x1] [] σ2 K))) K))) : PW (d + 1) M_Header_hasNextWord 53 [.ref x0, .ref x1] [] σ K := by
  refine pw_aload_n dc_Header_hasNextWord_53 rfl rfl ?_
  obtain ⟨hs1, h⟩ := h
  refine pw_getI (c := 10) (k := 6) (f := 646) dc_Header_hasNextWord_54 fl_Header_25 rfl rfl hs1 ?_
  refine pw_aload_n dc_Header_hasNextWord_57 rfl rfl ?_
  refine pw_getI (c := 10) (k := 4) (f := 644) dc_Header_hasNextWord_58 fl_Header_21 rfl rfl hs1 ?_
  refine pw_icmp_ge (tgt := 90) dc_Header_hasNextWord_61 (by decide) (fun hc => ?_) (fun hc => ?_)
  · have h := ite_t h hc
    refine PW.drop (ls' := [.ref x0, uu]) ⟨Or.inl rfl, Or.inr rfl, trivial⟩ ?_
    exact h
  · have h := ite_f h hc
    refine pw_aload_n dc_Header_hasNextWord_64 rfl rfl ?_
    refine pw_aload_n dc_Header_hasNextWord_65 rfl rfl ?_
    refine pw_getI (c := 10) (k := 6) (f := 646) dc_Header_hasNextWord_66 fl_Header_25 rfl rfl hs1 ?_
    obtain ⟨hs2, h⟩ := h
    refine pw_callV (vs := [.int (gI σ 646 x0)]) (st := []) (b := x1) (cn := 3) dc_Header_hasNextWord_69 cq_Text_at (List.mem_of_getElem? (i := 563) (by decide +kernel)) (List.mem_of_getElem? (i := 564) (by decide +kernel)) (List.mem_of_getElem? (i := 562) (by decide +kernel)) rfl hs2 rfl rfl (by decide) (cat_cons rfl (cat_nil)) (Nat.le_of_ble_eq_true rfl) (PW.mono (kI_kN (fun r1 σ1 h => ?_)) h)
    refine pw_bipush (v := 32) dc_Header_hasNextWord_72 (by decide) ?_
    refine pw_icmp_eq (tgt := 90) dc_Header_hasNextWord_74 (by decide) (fun hc => ?_) (fun hc => ?_)
    · have h := ite_t h hc
      refine PW.drop (ls' := [.ref x0, uu]) ⟨Or.inl rfl, Or.inr rfl, trivial⟩ ?_
      exact h
    · have h := ite_f h hc
      refine pw_aload_n dc_Header_hasNextWord_77 rfl rfl ?_
      refine pw_dup dc_Header_hasNextWord_78 rfl ?_
      obtain ⟨hs3, h⟩ := h
      refine pw_getI (c := 10) (k := 6) (f := 646) dc_Header_hasNextWord_79 fl_Header_25 rfl rfl hs3 ?_
      refine pw_iconst (v := 1) dc_Header_hasNextWord_82 (by decide) ?_
      refine pw_iadd dc_Header_hasNextWord_83 ?_
      have h := h _ rfl
      refine pw_putI (c := 10) (k := 6) (f := 646) dc_Header_hasNextWord_84 fl_Header_25 (Or.inl rfl) rfl rfl hs3 ?_
      refine pw_goto (tgt := 53) dc_Header_hasNextWord_87 (by decide) ?_
      exact h
set_option maxRecDepth 20000 in
theorem e_Header_hasNextWord_90 {d : Nat} {σ : PH} {K : PO → PH → Prop} (x0 : Nat) (h : sh σ x0 = (1, 10) ∧ (if (gI σ 646 x0) ≤ (gI σ 645 x0) then K (.inl (some (.int 0))) σ else K (.inl (some (.int 1))) σ)) : PW (d + 1) M_Header_hasNextWord 90 [.ref x0, uu] [] σ K := by
  refine pw_aload_n dc_Header_hasNextWord_90 rfl rfl ?_
  obtain ⟨hs1, h⟩ := h
  refine pw_getI (c := 10) (k := 6) (f := 646) dc_Header_hasNextWord_91 fl_Header_25 rfl rfl hs1 ?_
  refine pw_aload_n dc_Header_hasNextWord_94 rfl rfl ?_
  refine pw_getI (c := 10) (k := 5) (f := 645) dc_Header_hasNextWord_95 fl_Header_38 rfl rfl hs1 ?_
  refine pw_icmp_le (tgt := 105) dc_Header_hasNextWord_98 (by decide) (fun hc => ?_) (fun hc => ?_)
  · have h := ite_t h hc
    refine pw_iconst (v := 0) dc_Header_hasNextWord_105 (by decide) ?_
    exact pw_iret dc_Header_hasNextWord_106 rfl (bo_nar (Or.inl rfl)) h
  · have h := ite_f h hc
    refine pw_iconst (v := 1) dc_Header_hasNextWord_101 (by decide) ?_
    refine pw_goto (tgt := 106) dc_Header_hasNextWord_102 (by decide) ?_
    exact pw_iret dc_Header_hasNextWord_106 rfl (bo_nar (Or.inr rfl)) h
theorem dc_Header_wordLength_0 : decode M_Header_wordLength.2.1 0 = .ok (.aload_n 0, 1) := by decide +kernel
theorem dc_Header_wordLength_1 : decode M_Header_wordLength.2.1 1 = .ok (.getfield 25, 3) := by decide +kernel
theorem dc_Header_wordLength_4 : decode M_Header_wordLength.2.1 4 = .ok (.aload_n 0, 1) := by decide +kernel
theorem dc_Header_wordLength_5 : decode M_Header_wordLength.2.1 5 = .ok (.getfield 38, 3) := by decide +kernel
theorem dc_Header_wordLength_8 : decode M_Header_wordLength.2.1 8 = .ok (.isub, 1) := by decide +kernel
theorem dc_Header_wordLength_9 : decode M_Header_wordLength.2.1 9 = .ok (.ireturn, 1) := by decide +kernel
set_option maxRecDepth 20000 in
theorem e_Header_wordLength_0 {d : Nat} {σ : PH} {K : PO → PH → Prop} (x0 : Nat) (h : sh σ x0 = (1, 10) ∧ K (.inl (some (.int ((gI σ 646 x0) - (gI σ 645 x0))))) σ) : PW d M_Header_wordLength 0 [.ref x0] [] σ K := by
  refine pw_aload_n dc_Header_wordLength_0 rfl rfl ?_
  obtain ⟨hs1, h⟩ := h
  refine pw_getI (c := 10) (k := 6) (f := 646) dc_Header_wordLength_1 fl_Header_25 rfl rfl hs1 ?_
  refine pw_aload_n dc_Header_wordLength_4 rfl rfl ?_
  refine pw_getI (c := 10) (k := 5) (f := 645) dc_Header_wordLength_5 fl_Header_38 rfl rfl hs1 ?_
  refine pw_isub dc_Header_wordLength_8 ?_
  exact pw_iret dc_Header_wordLength_9 rfl rfl h
theorem dc_Header_isNumber_0 : decode M_Header_isNumber.2.1 0 = .ok (.aload_n 0, 1) := by decide +kernel
theorem dc_Header_isNumber_1 : decode M_Header_isNumber.2.1 1 = .ok (.iconst 0, 1) := by decide +kernel
theorem dc_Header_isNumber_2 : decode M_Header_isNumber.2.1 2 = .ok (.putfield 51, 3) := by decide +kernel
theorem dc_Header_isNumber_5 : decode M_Header_isNumber.2.1 5 = .ok (.aload_n 0, 1) := by decide +kernel
theorem dc_Header_isNumber_6 : decode M_Header_isNumber.2.1 6 = .ok (.invokevirtual 35, 3) := by decide +kernel
theorem dc_Header_isNumber_9 : decode M_Header_isNumber.2.1 9 = .ok (.iconst 3, 1) := by decide +kernel
theorem dc_Header_isNumber_10 : decode M_Header_isNumber.2.1 10 = .ok (.if_icmp .eq 5, 3) := by decide +kernel
theorem dc_Header_isNumber_13 : decode M_Header_isNumber.2.1 13 = .ok (.iconst 0, 1) := by decide +kernel
theorem dc_Header_isNumber_14 : decode M_Header_isNumber.2.1 14 = .ok (.ireturn, 1) := by decide +kernel
theorem dc_Header_isNumber_15 : decode M_Header_isNumber.2.1 15 = .ok (.aload_n 0, 1) := by decide +kernel
theorem dc_Header_isNumber_16 : decode M_Header_isNumber.2.1 16 = .ok (.getfield 38, 3) := by decide +kernel
theorem dc_Header_isNumber_19 : decode M_Header_isNumber.2.1 19 = .ok (.istore_n 2, 1) := by decide +kernel
theorem dc_Header_isNumber_20 : decode M_Header_isNumber.2.1 20 = .ok (.iload_n 2, 1) := by decide +kernel
theorem dc_Header_isNumber_21 : decode M_Header_isNumber.2.1 21 = .ok (.aload_n 0, 1) := by decide +kernel
theorem dc_Header_isNumber_22 : decode M_Header_isNumber.2.1 22 = .ok (.getfield 25, 3) := by decide +kernel
theorem dc_Header_isNumber_25 : decode M_Header_isNumber.2.1 25 = .ok (.if_icmp .ge 42, 3) := by decide +kernel
theorem dc_Header_isNumber_28 : decode M_Header_isNumber.2.1 28 = .ok (.aload_n 1, 1) := by decide +kernel
theorem dc_Header_isNumber_29 : decode M_Header_isNumber.2.1 29 = .ok (.iload_n 2, 1) := by decide +kernel
theorem dc_Header_isNumber_30 : decode M_Header_isNumber.2.1 30 = .ok (.invokevirtual 41, 3) := by decide +kernel
theorem dc_Header_isNumber_33 : decode M_Header_isNumber.2.1 33 = .ok (.invokestatic 54, 3) := by decide +kernel
theorem dc_Header_isNumber_36 : decode M_Header_isNumber.2.1 36 = .ok (.ifCond .ne 5, 3) := by decide +kernel
theorem dc_Header_isNumber_39 : decode M_Header_isNumber.2.1 39 = .ok (.iconst 0, 1) := by decide +kernel
theorem dc_Header_isNumber_40 : decode M_Header_isNumber.2.1 40 = .ok (.ireturn, 1) := by decide +kernel
theorem dc_Header_isNumber_41 : decode M_Header_isNumber.2.1 41 = .ok (.aload_n 0, 1) := by decide +kernel
theorem dc_Header_isNumber_42 : decode M_Header_isNumber.2.1 42 = .ok (.aload_n 0, 1) := by decide +kernel
theorem dc_Header_isNumber_43 : decode M_Header_isNumber.2.1 43 = .ok (.getfield 51, 3) := by decide +kernel
theorem dc_Header_isNumber_46 : decode M_Header_isNumber.2.1 46 = .ok (.bipush 10, 2) := by decide +kernel
theorem dc_Header_isNumber_48 : decode M_Header_isNumber.2.1 48 = .ok (.imul, 1) := by decide +kernel
theorem dc_Header_isNumber_49 : decode M_Header_isNumber.2.1 49 = .ok (.aload_n 1, 1) := by decide +kernel
theorem dc_Header_isNumber_50 : decode M_Header_isNumber.2.1 50 = .ok (.iload_n 2, 1) := by decide +kernel
theorem dc_Header_isNumber_51 : decode M_Header_isNumber.2.1 51 = .ok (.invokevirtual 41, 3) := by decide +kernel
theorem dc_Header_isNumber_54 : decode M_Header_isNumber.2.1 54 = .ok (.iadd, 1) := by decide +kernel
theorem dc_Header_isNumber_55 : decode M_Header_isNumber.2.1 55 = .ok (.bipush 48, 2) := by decide +kernel
theorem dc_Header_isNumber_57 : decode M_Header_isNumber.2.1 57 = .ok (.isub, 1) := by decide +kernel
theorem dc_Header_isNumber_58 : decode M_Header_isNumber.2.1 58 = .ok (.putfield 51, 3) := by decide +kernel
theorem dc_Header_isNumber_61 : decode M_Header_isNumber.2.1 61 = .ok (.iinc 2 1, 3) := by decide +kernel
theorem dc_Header_isNumber_64 : decode M_Header_isNumber.2.1 64 = .ok (.goto (-44), 3) := by decide +kernel
theorem dc_Header_isNumber_67 : decode M_Header_isNumber.2.1 67 = .ok (.aload_n 0, 1) := by decide +kernel
theorem dc_Header_isNumber_68 : decode M_Header_isNumber.2.1 68 = .ok (.getfield 51, 3) := by decide +kernel
theorem dc_Header_isNumber_71 : decode M_Header_isNumber.2.1 71 = .ok (.ifCond .le 7, 3) := by decide +kernel
theorem dc_Header_isNumber_74 : decode M_Header_isNumber.2.1 74 = .ok (.iconst 1, 1) := by decide +kernel
theorem dc_Header_isNumber_75 : decode M_Header_isNumber.2.1 75 = .ok (.goto 4, 3) := by decide +kernel
theorem dc_Header_isNumber_78 : decode M_Header_isNumber.2.1 78 = .ok (.iconst 0, 1) := by decide +kernel
theorem dc_Header_isNumber_79 : decode M_Header_isNumber.2.1 79 = .ok (.ireturn, 1) := by decide +kernel
set_option maxRecDepth 20000 in
theorem e_Header_isNumber_0 {d : Nat} {σ : PH} {K : PO → PH → Prop} (x0 : Nat) (x1 : Nat) (h : sh σ x0 = (1, 10) ∧ (∀ σ1 : PH, σ1 = pI σ 640 x0 0 → sh σ1 x0 = (1, 10) ∧ PW d M_Header_wordLength 0 [.ref x0] [] σ1 (kI (fun r1 σ2 => (if r1 = 3 then sh σ2 x0 = (1, 10) ∧ PW (d + 1) M_Header_isNumber 20 [.ref x0, .ref x1, .int (gI σ2 645 x0)] [] σ2 K else K (.inl (some (.int 0))) σ2)) K))) : PW (d + 1) M_Header_isNumber 0 [.ref x0, .ref x1, uu] [] σ K := by
  refine pw_aload_n dc_Header_isNumber_0 rfl rfl ?_
  refine pw_iconst (v := 0) dc_Header_isNumber_1 (by decide) ?_
  obtain ⟨hs1, h⟩ := h
  have h := h _ rfl
  refine pw_putI (c := 10) (k := 0) (f := 640) dc_Header_isNumber_2 fl_Header_51 (Or.inl rfl) rfl rfl hs1 ?_
  refine pw_aload_n dc_Header_isNumber_5 rfl rfl ?_
  obtain ⟨hs2, h⟩ := h
  refine pw_callV (vs := []) (st := []) (b := x0) (cn := 10) dc_Header_isNumber_6 cq_Header_wordLength (List.mem_of_getElem? (i := 572) (by decide +kernel)) (List.mem_of_getElem? (i := 6) (by decide +kernel)) (List.mem_of_getElem? (i := 570) (by decide +kernel)) rfl hs2 rfl rfl (by decide) (cat_nil) (Nat.le_of_ble_eq_true rfl) (PW.mono (kI_kN (fun r1 σ2 h => ?_)) h)
  refine pw_iconst (v := 3) dc_Header_isNumber_9 (by decide) ?_
  refine pw_icmp_eq (tgt := 15) dc_Header_isNumber_10 (by decide) (fun hc => ?_) (fun hc => ?_)
  · have h := ite_t h hc
    refine pw_aload_n dc_Header_isNumber_15 rfl rfl ?_
    obtain ⟨hs3, h⟩ := h
    refine pw_getI (c := 10) (k := 5) (f := 645) dc_Header_isNumber_16 fl_Header_38 rfl rfl hs3 ?_
    refine pw_istore_n dc_Header_isNumber_19 (by decide) ?_
    exact h
  · have h := ite_f h hc
    refine pw_iconst (v := 0) dc_Header_isNumber_13 (by decide) ?_
    exact pw_iret dc_Header_isNumber_14 rfl (bo_nar (Or.inl rfl)) h
set_option maxRecDepth 20000 in
theorem e_Header_isNumber_20 {d : Nat} {σ : PH} {K : PO → PH → Prop} (x0 : Nat) (x1 : Nat) (x2 : Int32) (h : sh σ x0 = (1, 10) ∧ (if (gI σ 646 x0) ≤ x2 then (if (gI σ 640 x0) ≤ 0 then K (.inl (some (.int 0))) σ else K (.inl (some (.int 1))) σ) else sh σ x1 = (1, 3) ∧ PW d M_Text_at 0 [.ref x1, .int x2] [] σ (kI (fun r1 σ1 => PW d M_Signs_isDigit 0 [.int r1] [] σ1 (kI (fun r2 σ2 => (if r2 = 0 then K (.inl (some (.int 0))) σ2 else sh σ2 x0 = (1, 10) ∧ sh σ2 x1 = (1, 3) ∧ PW d M_Text_at 0 [.ref x1, .int x2] [] σ2 (kI (fun r3 σ3 => sh σ3 x0 = (1, 10) ∧ (∀ σ4 : PH, σ4 = pI σ3 640 x0 ((((gI σ2 640 x0) * 10) + r3) - 48) → PW (d + 1) M_Header_isNumber 20 [.ref x0, .ref x1, .int (x2 + 1)] [] σ4 K)) K))) K)) K))) : PW (d + 1) M_Header_isNumber 20 [.ref x0, .ref x1, .int x2] [] σ K := by
  refine pw_iload_n dc_Header_isNumber_20 rfl ?_
  refine pw_aload_n dc_Header_isNumber_21 rfl rfl ?_
  obtain ⟨hs1, h⟩ := h
  refine pw_getI (c := 10) (k := 6) (f := 646) dc_Header_isNumber_22 fl_Header_25 rfl rfl hs1 ?_
  refine pw_icmp_ge (tgt := 67) dc_Header_isNumber_25 (by decide) (fun hc => ?_) (fun hc => ?_)
  · have h := ite_t h hc
    refine pw_aload_n dc_Header_isNumber_67 rfl rfl ?_
    refine pw_getI (c := 10) (k := 0) (f := 640) dc_Header_isNumber_68 fl_Header_51 rfl rfl hs1 ?_
    refine pw_if_le (tgt := 78) dc_Header_isNumber_71 (by decide) (fun hc => ?_) (fun hc => ?_)
    · have h := ite_t h hc
      refine pw_iconst (v := 0) dc_Header_isNumber_78 (by decide) ?_
      exact pw_iret dc_Header_isNumber_79 rfl (bo_nar (Or.inl rfl)) h
    · have h := ite_f h hc
      refine pw_iconst (v := 1) dc_Header_isNumber_74 (by decide) ?_
      refine pw_goto (tgt := 79) dc_Header_isNumber_75 (by decide) ?_
      exact pw_iret dc_Header_isNumber_79 rfl (bo_nar (Or.inr rfl)) h
  · have h := ite_f h hc
    refine pw_aload_n dc_Header_isNumber_28 rfl rfl ?_
    refine pw_iload_n dc_Header_isNumber_29 rfl ?_
    obtain ⟨hs2, h⟩ := h
    refine pw_callV (vs := [.int x2]) (st := []) (b := x1) (cn := 3) dc_Header_isNumber_30 cq_Text_at (List.mem_of_getElem? (i := 563) (by decide +kernel)) (List.mem_of_getElem? (i := 564) (by decide +kernel)) (List.mem_of_getElem? (i := 562) (by decide +kernel)) rfl hs2 rfl rfl (by decide) (cat_cons rfl (cat_nil)) (Nat.le_of_ble_eq_true rfl) (PW.mono (kI_kN (fun r1 σ1 h => ?_)) h)
    refine pw_callS (vs := [.int r1]) (st := []) dc_Header_isNumber_33 cq_Signs_isDigit (List.mem_of_getElem? (i := 575) (by decide +kernel)) (List.mem_of_getElem? (i := 574) (by decide +kernel)) rfl rfl (cat_cons rfl (cat_nil)) (Nat.le_of_ble_eq_true rfl) (PW.mono (kI_kN (fun r2 σ2 h => ?_)) h)
    refine pw_if_ne (tgt := 41) dc_Header_isNumber_36 (by decide) (fun hc => ?_) (fun hc => ?_)
    · have h := ite_f h hc
      refine pw_aload_n dc_Header_isNumber_41 rfl rfl ?_
      refine pw_aload_n dc_Header_isNumber_42 rfl rfl ?_
      obtain ⟨hs3, h⟩ := h
      refine pw_getI (c := 10) (k := 0) (f := 640) dc_Header_isNumber_43 fl_Header_51 rfl rfl hs3 ?_
      refine pw_bipush (v := 10) dc_Header_isNumber_46 (by decide) ?_
      refine pw_imul dc_Header_isNumber_48 ?_
      refine pw_aload_n dc_Header_isNumber_49 rfl rfl ?_
      refine pw_iload_n dc_Header_isNumber_50 rfl ?_
      obtain ⟨hs4, h⟩ := h
      refine pw_callV (vs := [.int x2]) (st := [.int ((gI σ2 640 x0) * 10), .ref x0]) (b := x1) (cn := 3) dc_Header_isNumber_51 cq_Text_at (List.mem_of_getElem? (i := 563) (by decide +kernel)) (List.mem_of_getElem? (i := 564) (by decide +kernel)) (List.mem_of_getElem? (i := 562) (by decide +kernel)) rfl hs4 rfl rfl (by decide) (cat_cons rfl (cat_nil)) (Nat.le_of_ble_eq_true rfl) (PW.mono (kI_kN (fun r3 σ3 h => ?_)) h)
      refine pw_iadd dc_Header_isNumber_54 ?_
      refine pw_bipush (v := 48) dc_Header_isNumber_55 (by decide) ?_
      refine pw_isub dc_Header_isNumber_57 ?_
      obtain ⟨hs5, h⟩ := h
      have h := h _ rfl
      refine pw_putI (c := 10) (k := 0) (f := 640) dc_Header_isNumber_58 fl_Header_51 (Or.inl rfl) rfl rfl hs5 ?_
      refine pw_iincv (v := 1) dc_Header_isNumber_61 (by decide) rfl (by decide) ?_
      refine pw_goto (tgt := 20) dc_Header_isNumber_64 (by decide) ?_
      exact h
    · have h := ite_t h hc
      refine pw_iconst (v := 0) dc_Header_isNumber_39 (by decide) ?_
      exact pw_iret dc_Header_isNumber_40 rfl (bo_nar (Or.inl rfl)) h
theorem dc_Header_isPrecedence_0 : decode M_Header_isPrecedence.2.1 0 = .ok (.aload_n 0, 1) := by decide +kernel
theorem dc_Header_isPrecedence_1 : decode M_Header_isPrecedence.2.1 1 = .ok (.aload_n 1, 1) := by decide +kernel
theorem dc_Header_isPrecedence_2 : decode M_Header_isPrecedence.2.1 2 = .ok (.aload_n 0, 1) := by decide +kernel
theorem dc_Header_isPrecedence_3 : decode M_Header_isPrecedence.2.1 3 = .ok (.getfield 38, 3) := by decide +kernel
theorem dc_Header_isPrecedence_6 : decode M_Header_isPrecedence.2.1 6 = .ok (.invokevirtual 41, 3) := by decide +kernel
theorem dc_Header_isPrecedence_9 : decode M_Header_isPrecedence.2.1 9 = .ok (.bipush 48, 2) := by decide +kernel
theorem dc_Header_isPrecedence_11 : decode M_Header_isPrecedence.2.1 11 = .ok (.isub, 1) := by decide +kernel
theorem dc_Header_isPrecedence_12 : decode M_Header_isPrecedence.2.1 12 = .ok (.putfield 60, 3) := by decide +kernel
theorem dc_Header_isPrecedence_15 : decode M_Header_isPrecedence.2.1 15 = .ok (.aload_n 0, 1) := by decide +kernel
theorem dc_Header_isPrecedence_16 : decode M_Header_isPrecedence.2.1 16 = .ok (.invokevirtual 35, 3) := by decide +kernel
theorem dc_Header_isPrecedence_19 : decode M_Header_isPrecedence.2.1 19 = .ok (.iconst 1, 1) := by decide +kernel
theorem dc_Header_isPrecedence_20 : decode M_Header_isPrecedence.2.1 20 = .ok (.if_icmp .ne 23, 3) := by decide +kernel
theorem dc_Header_isPrecedence_23 : decode M_Header_isPrecedence.2.1 23 = .ok (.aload_n 0, 1) := by decide +kernel
theorem dc_Header_isPrecedence_24 : decode M_Header_isPrecedence.2.1 24 = .ok (.getfield 60, 3) := by decide +kernel
theorem dc_Header_isPrecedence_27 : decode M_Header_isPrecedence.2.1 27 = .ok (.iconst 1, 1) := by decide +kernel
theorem dc_Header_isPrecedence_28 : decode M_Header_isPrecedence.2.1 28 = .ok (.if_icmp .lt 15, 3) := by decide +kernel
theorem dc_Header_isPrecedence_31 : decode M_Header_isPrecedence.2.1 31 = .ok (.aload_n 0, 1) := by decide +kernel
theorem dc_Header_isPrecedence_32 : decode M_Header_isPrecedence.2.1 32 = .ok (.getfield 60, 3) := by decide +kernel
theorem dc_Header_isPrecedence_35 : decode M_Header_isPrecedence.2.1 35 = .ok (.iconst 4, 1) := by decide +kernel
theorem dc_Header_isPrecedence_36 : decode M_Header_isPrecedence.2.1 36 = .ok (.if_icmp .gt 7, 3) := by decide +kernel
theorem dc_Header_isPrecedence_39 : decode M_Header_isPrecedence.2.1 39 = .ok (.iconst 1, 1) := by decide +kernel
theorem dc_Header_isPrecedence_40 : decode M_Header_isPrecedence.2.1 40 = .ok (.goto 4, 3) := by decide +kernel
theorem dc_Header_isPrecedence_43 : decode M_Header_isPrecedence.2.1 43 = .ok (.iconst 0, 1) := by decide +kernel
theorem dc_Header_isPrecedence_44 : decode M_Header_isPrecedence.2.1 44 = .ok (.ireturn, 1) := by decide +kernel
set_option maxRecDepth 20000 in
theorem e_Header_isPrecedence_0 {d : Nat} {σ : PH} {K : PO → PH → Prop} (x0 : Nat) (x1 : Nat) (h : sh σ x0 = (1, 10) ∧ sh σ x1 = (1, 3) ∧ PW d M_Text_at 0 [.ref x1, .int (gI σ 645 x0)] [] σ (kI (fun r1 σ1 => sh σ1 x0 = (1, 10) ∧ (∀ σ2 : PH, σ2 = pI σ1 641 x0 (r1 - 48) → sh σ2 x0 = (1, 10) ∧ PW d M_Header_wordLength 0 [.ref x0] [] σ2 (kI (fun r2 σ3 => (if r2 = 1 then sh σ3 x0 = (1, 10) ∧ (if (gI σ3 641 x0) < 1 then K (.inl (some (.int 0))) σ3 else (if 4 < (gI σ3 641 x0) then K (.inl (some (.int 0))) σ3 else K (.inl (some (.int 1))) σ3)) else K (.inl (some (.int 0))) σ3)) K))) K)) : PW (d + 1) M_Header_isPrecedence 0 [.ref x0, .ref x1] [] σ K := by
  refine pw_aload_n dc_Header_isPrecedence_0 rfl rfl ?_
  refine pw_aload_n dc_Header_isPrecedence_1 rfl rfl ?_
  refine pw_aload_n dc_Header_isPrecedence_2 rfl rfl ?_
  obtain ⟨hs1, h⟩ := h
  refine pw_getI (c := 10) (k := 5) (f := 645) dc_Header_isPrecedence_3 fl_Header_38 rfl rfl hs1 ?_
  obtain ⟨hs2, h⟩ := h
  refine pw_callV (vs := [.int (gI σ 645 x0)]) (st := [.ref x0]) (b := x1) (cn := 3) dc_Header_isPrecedence_6 cq_Text_at (List.mem_of_getElem? (i := 563) (by decide +kernel)) (List.mem_of_getElem? (i := 564) (by decide +kernel)) (List.mem_of_getElem? (i := 562) (by decide +kernel)) rfl hs2 rfl rfl (by decide) (cat_cons rfl (cat_nil)) (Nat.le_of_ble_eq_true rfl) (PW.mono (kI_kN (fun r1 σ1 h => ?_)) h)
  refine pw_bipush (v := 48) dc_Header_isPrecedence_9 (by decide) ?_
  refine pw_isub dc_Header_isPrecedence_11 ?_
  obtain ⟨hs3, h⟩ := h
  have h := h _ rfl
  refine pw_putI (c := 10) (k := 1) (f := 641) dc_Header_isPrecedence_12 fl_Header_60 (Or.inl rfl) rfl rfl hs3 ?_
  refine pw_aload_n dc_Header_isPrecedence_15 rfl rfl ?_
  obtain ⟨hs4, h⟩ := h
  refine pw_callV (vs := []) (st := []) (b := x0) (cn := 10) dc_Header_isPrecedence_16 cq_Header_wordLength (List.mem_of_getElem? (i := 572) (by decide +kernel)) (List.mem_of_getElem? (i := 6) (by decide +kernel)) (List.mem_of_getElem? (i := 570) (by decide +kernel)) rfl hs4 rfl rfl (by decide) (cat_nil) (Nat.le_of_ble_eq_true rfl) (PW.mono (kI_kN (fun r2 σ3 h => ?_)) h)
  refine pw_iconst (v := 1) dc_Header_isPrecedence_19 (by decide) ?_
  refine pw_icmp_ne (tgt := 43) dc_Header_isPrecedence_20 (by decide) (fun hc => ?_) (fun hc => ?_)
  · have h := ite_f h hc
    refine pw_iconst (v := 0) dc_Header_isPrecedence_43 (by decide) ?_
    exact pw_iret dc_Header_isPrecedence_44 rfl (bo_nar (Or.inl rfl)) h
  · have h := ite_t h hc
    refine pw_aload_n dc_Header_isPrecedence_23 rfl rfl ?_
    obtain ⟨hs5, h⟩ := h
    refine pw_getI (c := 10) (k := 1) (f := 641) dc_Header_isPrecedence_24 fl_Header_60 rfl rfl hs5 ?_
    refine pw_iconst (v := 1) dc_Header_isPrecedence_27 (by decide) ?_
    refine pw_icmp_lt (tgt := 43) dc_Header_isPrecedence_28 (by decide) (fun hc => ?_) (fun hc => ?_)
    · have h := ite_t h hc
      refine pw_iconst (v := 0) dc_Header_isPrecedence_43 (by decide) ?_
      exact pw_iret dc_Header_isPrecedence_44 rfl (bo_nar (Or.inl rfl)) h
    · have h := ite_f h hc
      refine pw_aload_n dc_Header_isPrecedence_31 rfl rfl ?_
      refine pw_getI (c := 10) (k := 1) (f := 641) dc_Header_isPrecedence_32 fl_Header_60 rfl rfl hs5 ?_
      refine pw_iconst (v := 4) dc_Header_isPrecedence_35 (by decide) ?_
      refine pw_icmp_gt (tgt := 43) dc_Header_isPrecedence_36 (by decide) (fun hc => ?_) (fun hc => ?_)
      · have h := ite_t h hc
        refine pw_iconst (v := 0) dc_Header_isPrecedence_43 (by decide) ?_
        exact pw_iret dc_Header_isPrecedence_44 rfl (bo_nar (Or.inl rfl)) h
      · have h := ite_f h hc
        refine pw_iconst (v := 1) dc_Header_isPrecedence_39 (by decide) ?_
        refine pw_goto (tgt := 44) dc_Header_isPrecedence_40 (by decide) ?_
        exact pw_iret dc_Header_isPrecedence_44 rfl (bo_nar (Or.inr rfl)) h
theorem dc_Header_readsIndicators_0 : decode M_Header_readsIndicators.2.1 0 = .ok (.aload_n 0, 1) := by decide +kernel
theorem dc_Header_readsIndicators_1 : decode M_Header_readsIndicators.2.1 1 = .ok (.iconst 0, 1) := by decide +kernel
theorem dc_Header_readsIndicators_2 : decode M_Header_readsIndicators.2.1 2 = .ok (.putfield 63, 3) := by decide +kernel
theorem dc_Header_readsIndicators_5 : decode M_Header_readsIndicators.2.1 5 = .ok (.aload_n 0, 1) := by decide +kernel
theorem dc_Header_readsIndicators_6 : decode M_Header_readsIndicators.2.1 6 = .ok (.aload_n 1, 1) := by decide +kernel
theorem dc_Header_readsIndicators_7 : decode M_Header_readsIndicators.2.1 7 = .ok (.invokevirtual 28, 3) := by decide +kernel
theorem dc_Header_readsIndicators_10 : decode M_Header_readsIndicators.2.1 10 = .ok (.istore_n 2, 1) := by decide +kernel
theorem dc_Header_readsIndicators_11 : decode M_Header_readsIndicators.2.1 11 = .ok (.iload_n 2, 1) := by decide +kernel
theorem dc_Header_readsIndicators_12 : decode M_Header_readsIndicators.2.1 12 = .ok (.ifCond .eq 54, 3) := by decide +kernel
theorem dc_Header_readsIndicators_15 : decode M_Header_readsIndicators.2.1 15 = .ok (.aload_n 0, 1) := by decide +kernel
theorem dc_Header_readsIndicators_16 : decode M_Header_readsIndicators.2.1 16 = .ok (.getfield 63, 3) := by decide +kernel
theorem dc_Header_readsIndicators_19 : decode M_Header_readsIndicators.2.1 19 = .ok (.iconst 4, 1) := by decide +kernel
theorem dc_Header_readsIndicators_20 : decode M_Header_readsIndicators.2.1 20 = .ok (.if_icmp .ge 46, 3) := by decide +kernel
theorem dc_Header_readsIndicators_23 : decode M_Header_readsIndicators.2.1 23 = .ok (.aload_n 0, 1) := by decide +kernel
theorem dc_Header_readsIndicators_24 : decode M_Header_readsIndicators.2.1 24 = .ok (.aload_n 1, 1) := by decide +kernel
theorem dc_Header_readsIndicators_25 : decode M_Header_readsIndicators.2.1 25 = .ok (.invokevirtual 66, 3) := by decide +kernel
theorem dc_Header_readsIndicators_28 : decode M_Header_readsIndicators.2.1 28 = .ok (.ifCond .ne 5, 3) := by decide +kernel
theorem dc_Header_readsIndicators_31 : decode M_Header_readsIndicators.2.1 31 = .ok (.iconst 0, 1) := by decide +kernel
theorem dc_Header_readsIndicators_32 : decode M_Header_readsIndicators.2.1 32 = .ok (.ireturn, 1) := by decide +kernel
theorem dc_Header_readsIndicators_33 : decode M_Header_readsIndicators.2.1 33 = .ok (.aload_n 0, 1) := by decide +kernel
theorem dc_Header_readsIndicators_34 : decode M_Header_readsIndicators.2.1 34 = .ok (.getfield 9, 3) := by decide +kernel
theorem dc_Header_readsIndicators_37 : decode M_Header_readsIndicators.2.1 37 = .ok (.aload_n 0, 1) := by decide +kernel
theorem dc_Header_readsIndicators_38 : decode M_Header_readsIndicators.2.1 38 = .ok (.getfield 63, 3) := by decide +kernel
theorem dc_Header_readsIndicators_41 : decode M_Header_readsIndicators.2.1 41 = .ok (.aload_n 0, 1) := by decide +kernel
theorem dc_Header_readsIndicators_42 : decode M_Header_readsIndicators.2.1 42 = .ok (.aload_n 1, 1) := by decide +kernel
theorem dc_Header_readsIndicators_43 : decode M_Header_readsIndicators.2.1 43 = .ok (.invokevirtual 69, 3) := by decide +kernel
theorem dc_Header_readsIndicators_46 : decode M_Header_readsIndicators.2.1 46 = .ok (.iastore, 1) := by decide +kernel
theorem dc_Header_readsIndicators_47 : decode M_Header_readsIndicators.2.1 47 = .ok (.aload_n 0, 1) := by decide +kernel
theorem dc_Header_readsIndicators_48 : decode M_Header_readsIndicators.2.1 48 = .ok (.dup, 1) := by decide +kernel
theorem dc_Header_readsIndicators_49 : decode M_Header_readsIndicators.2.1 49 = .ok (.getfield 63, 3) := by decide +kernel
theorem dc_Header_readsIndicators_52 : decode M_Header_readsIndicators.2.1 52 = .ok (.iconst 1, 1) := by decide +kernel
theorem dc_Header_readsIndicators_53 : decode M_Header_readsIndicators.2.1 53 = .ok (.iadd, 1) := by decide +kernel
theorem dc_Header_readsIndicators_54 : decode M_Header_readsIndicators.2.1 54 = .ok (.putfield 63, 3) := by decide +kernel
theorem dc_Header_readsIndicators_57 : decode M_Header_readsIndicators.2.1 57 = .ok (.aload_n 0, 1) := by decide +kernel
theorem dc_Header_readsIndicators_58 : decode M_Header_readsIndicators.2.1 58 = .ok (.aload_n 1, 1) := by decide +kernel
theorem dc_Header_readsIndicators_59 : decode M_Header_readsIndicators.2.1 59 = .ok (.invokevirtual 28, 3) := by decide +kernel
theorem dc_Header_readsIndicators_62 : decode M_Header_readsIndicators.2.1 62 = .ok (.istore_n 2, 1) := by decide +kernel
theorem dc_Header_readsIndicators_63 : decode M_Header_readsIndicators.2.1 63 = .ok (.goto (-52), 3) := by decide +kernel
theorem dc_Header_readsIndicators_66 : decode M_Header_readsIndicators.2.1 66 = .ok (.aload_n 0, 1) := by decide +kernel
theorem dc_Header_readsIndicators_67 : decode M_Header_readsIndicators.2.1 67 = .ok (.getfield 63, 3) := by decide +kernel
theorem dc_Header_readsIndicators_70 : decode M_Header_readsIndicators.2.1 70 = .ok (.ifCond .le 11, 3) := by decide +kernel
theorem dc_Header_readsIndicators_73 : decode M_Header_readsIndicators.2.1 73 = .ok (.iload_n 2, 1) := by decide +kernel
theorem dc_Header_readsIndicators_74 : decode M_Header_readsIndicators.2.1 74 = .ok (.ifCond .ne 7, 3) := by decide +kernel
theorem dc_Header_readsIndicators_77 : decode M_Header_readsIndicators.2.1 77 = .ok (.iconst 1, 1) := by decide +kernel
theorem dc_Header_readsIndicators_78 : decode M_Header_readsIndicators.2.1 78 = .ok (.goto 4, 3) := by decide +kernel
theorem dc_Header_readsIndicators_81 : decode M_Header_readsIndicators.2.1 81 = .ok (.iconst 0, 1) := by decide +kernel
theorem dc_Header_readsIndicators_82 : decode M_Header_readsIndicators.2.1 82 = .ok (.ireturn, 1) := by decide +kernel
set_option maxRecDepth 20000 in
theorem e_Header_readsIndicators_0 {d : Nat} {σ : PH} {K : PO → PH → Prop} (x0 : Nat) (x1 : Nat) (h : sh σ x0 = (1, 10) ∧ (∀ σ1 : PH, σ1 = pI σ 643 x0 0 → sh σ1 x0 = (1, 10) ∧ PW d M_Header_hasNextWord 0 [.ref x0, .ref x1] [] σ1 (kI (fun r1 σ2 => PW (d + 1) M_Header_readsIndicators 11 [.ref x0, .ref x1, .int r1] [] σ2 K) K))) : PW (d + 1) M_Header_readsIndicators 0 [.ref x0, .ref x1, uu] [] σ K := by
  refine pw_aload_n dc_Header_readsIndicators_0 rfl rfl ?_
  refine pw_iconst (v := 0) dc_Header_readsIndicators_1 (by decide) ?_
  obtain ⟨hs1, h⟩ := h
  have h := h _ rfl
  refine pw_putI (c := 10) (k := 3) (f := 643) dc_Header_readsIndicators_2 fl_Header_63 (Or.inl rfl) rfl rfl hs1 ?_
  refine pw_aload_n dc_Header_readsIndicators_5 rfl rfl ?_
  refine pw_aload_n dc_Header_readsIndicators_6 rfl rfl ?_
  obtain ⟨hs2, h⟩ := h
  refine pw_callV (vs := [.ref x1]) (st := []) (b := x0) (cn := 10) dc_Header_readsIndicators_7 cq_Header_hasNextWord (List.mem_of_getElem? (i := 560) (by decide +kernel)) (List.mem_of_getElem? (i := 4) (by decide +kernel)) (List.mem_of_getElem? (i := 558) (by decide +kernel)) rfl hs2 rfl rfl (by decide) (cat_cons rfl (cat_nil)) (Nat.le_of_ble_eq_true rfl) (PW.mono (kI_kN (fun r1 σ2 h => ?_)) h)
  refine pw_istore_n dc_Header_readsIndicators_10 (by decide) ?_
  exact h
set_option maxRecDepth 20000 in
theorem e_Header_readsIndicators_11 {d : Nat} {σ : PH} {K : PO → PH → Prop} (x0 : Nat) (x1 : Nat) (x2 : Int32) (h : (if x2 = 0 then PW (d + 1) M_Header_readsIndicators 66 [.ref x0, uu, .int x2] [] σ K else sh σ x0 = (1, 10) ∧ (if 4 ≤ (gI σ 643 x0) then PW (d + 1) M_Header_readsIndicators 66 [.ref x0, uu, .int x2] [] σ K else PW d M_Header_isIndicator 0 [.ref x0, .ref x1, uu] [] σ (kI (fun r1 σ1 => (if r1 = 0 then K (.inl (some (.int 0))) σ1 else sh σ1 x0 = (1, 10) ∧ (∃ b1 : Nat, gR σ1 642 x0 = some b1 ∧ PW d M_Header_indicatorOf 0 [.ref x0, .ref x1, uu, uu] [] σ1 (kI (fun r2 σ2 => (∃ n1 : Nat, sh σ2 b1 = (2, n1) ∧ vp_in (gI σ1 643 x0) n1 ∧ (∀ σ3 : PH, σ3 = uI σ2 b1 (ix (gI σ1 643 x0)) r2 → sh σ3 x0 = (1, 10) ∧ (∀ σ4 : PH, σ4 = pI σ3 643 x0 ((gI σ3 643 x0) + 1) → sh σ4 x0 = (1, 10) ∧ PW d M_Header_hasNextWord 0 [.ref x0, .ref x1] [] σ4 (kI (fun r3 σ5 => PW (d + 1) M_Header_readsIndicators 11 [.ref x0, .ref x1, .int r3] [] σ5 K) K))))) K)))) K)))) : PW (d + 1) M_Header_readsIndicators 11 [.ref x0, .ref x1, .int x2] [] σ K := by
  refine pw_iload_n dc_Header_readsIndicators_11 rfl ?_
  refine pw_if_eq (tgt := 66) dc_Header_readsIndicators_12 (by decide) (fun hc => ?_) (fun hc => ?_)
  · have h := ite_t h hc
    refine PW.drop (ls' := [.ref x0, uu, .int x2]) ⟨Or.inl rfl, Or.inr rfl, Or.inl rfl, trivial⟩ ?_
    exact h
  · have h := ite_f h hc
    refine pw_aload_n dc_Header_readsIndicators_15 rfl rfl ?_
    obtain ⟨hs1, h⟩ := h
    refine pw_getI (c := 10) (k := 3) (f := 643) dc_Header_readsIndicators_16 fl_Header_63 rfl rfl hs1 ?_
    refine pw_iconst (v := 4) dc_Header_readsIndicators_19 (by decide) ?_
    refine pw_icmp_ge (tgt := 66) dc_Header_readsIndicators_20 (by decide) (fun hc => ?_) (fun hc => ?_)
    · have h := ite_t h hc
      refine PW.drop (ls' := [.ref x0, uu, .int x2]) ⟨Or.inl rfl, Or.inr rfl, Or.inl rfl, trivial⟩ ?_
      exact h
    · have h := ite_f h hc
      refine pw_aload_n dc_Header_readsIndicators_23 rfl rfl ?_
      refine pw_aload_n dc_Header_readsIndicators_24 rfl rfl ?_
      refine pw_callV (vs := [.ref x1]) (st := []) (b := x0) (cn := 10) dc_Header_readsIndicators_25 cq_Header_isIndicator (List.mem_of_getElem? (i := 587) (by decide +kernel)) (List.mem_of_getElem? (i := 9) (by decide +kernel)) (List.mem_of_getElem? (i := 585) (by decide +kernel)) rfl hs1 rfl rfl (by decide) (cat_cons rfl (cat_nil)) (Nat.le_of_ble_eq_true rfl) (PW.mono (kI_kN (fun r1 σ1 h => ?_)) h)
      refine pw_if_ne (tgt := 33) dc_Header_readsIndicators_28 (by decide) (fun hc => ?_) (fun hc => ?_)
      · have h := ite_f h hc
        refine pw_aload_n dc_Header_readsIndicators_33 rfl rfl ?_
        obtain ⟨hs2, h⟩ := h
        refine pw_getR (c := 10) (k := 2) (f := 642) dc_Header_readsIndicators_34 fl_Header_9 rfl rfl hs2 ?_
        obtain ⟨b1, hb1, h⟩ := h
        refine PW.top (v' := .ref b1) (congrArg va_rf hb1) ?_
        refine pw_aload_n dc_Header_readsIndicators_37 rfl rfl ?_
        refine pw_getI (c := 10) (k := 3) (f := 643) dc_Header_readsIndicators_38 fl_Header_63 rfl rfl hs2 ?_
        refine pw_aload_n dc_Header_readsIndicators_41 rfl rfl ?_
        refine pw_aload_n dc_Header_readsIndicators_42 rfl rfl ?_
        refine pw_callV (vs := [.ref x1]) (st := [.int (gI σ1 643 x0), .ref b1]) (b := x0) (cn := 10) dc_Header_readsIndicators_43 cq_Header_indicatorOf (List.mem_of_getElem? (i := 594) (by decide +kernel)) (List.mem_of_getElem? (i := 10) (by decide +kernel)) (List.mem_of_getElem? (i := 592) (by decide +kernel)) rfl hs2 rfl rfl (by decide) (cat_cons rfl (cat_nil)) (Nat.le_of_ble_eq_true rfl) (PW.mono (kI_kN (fun r2 σ2 h => ?_)) h)
        obtain ⟨n1, hs3, h⟩ := h
        obtain ⟨hi1, h⟩ := h
        have h := h _ rfl
        refine pw_iast dc_Header_readsIndicators_46 hs3 hi1 ?_
        refine pw_aload_n dc_Header_readsIndicators_47 rfl rfl ?_
        refine pw_dup dc_Header_readsIndicators_48 rfl ?_
        obtain ⟨hs4, h⟩ := h
        refine pw_getI (c := 10) (k := 3) (f := 643) dc_Header_readsIndicators_49 fl_Header_63 rfl rfl hs4 ?_
        refine pw_iconst (v := 1) dc_Header_readsIndicators_52 (by decide) ?_
        refine pw_iadd dc_Header_readsIndicators_53 ?_
        have h := h _ rfl
        refine pw_putI (c := 10) (k := 3) (f := 643) dc_Header_readsIndicators_54 fl_Header_63 (Or.inl rfl) rfl rfl hs4 ?_
        refine pw_aload_n dc_Header_readsIndicators_57 rfl rfl ?_
        refine pw_aload_n dc_Header_readsIndicators_58 rfl rfl ?_
        obtain ⟨hs5, h⟩ := h
        refine pw_callV (vs := [.ref x1]) (st := []) (b := x0) (cn := 10) dc_Header_readsIndicators_59 cq_Header_hasNextWord (List.mem_of_getElem? (i := 560) (by decide +kernel)) (List.mem_of_getElem? (i := 4) (by decide +kernel)) (List.mem_of_getElem? (i := 558) (by decide +kernel)) rfl hs5 rfl rfl (by decide) (cat_cons rfl (cat_nil)) (Nat.le_of_ble_eq_true rfl) (PW.mono (kI_kN (fun r3 σ5 h => ?_)) h)
        refine pw_istore_n dc_Header_readsIndicators_62 (by decide) ?_
        refine pw_goto (tgt := 11) dc_Header_readsIndicators_63 (by decide) ?_
        exact h
      · have h := ite_t h hc
        refine pw_iconst (v := 0) dc_Header_readsIndicators_31 (by decide) ?_
        exact pw_iret dc_Header_readsIndicators_32 rfl (bo_nar (Or.inl rfl)) h
set_option maxRecDepth 20000 in
theorem e_Header_readsIndicators_66 {d : Nat} {σ : PH} {K : PO → PH → Prop} (x0 : Nat) (x2 : Int32) (h : sh σ x0 = (1, 10) ∧ (if (gI σ 643 x0) ≤ 0 then K (.inl (some (.int 0))) σ else (if x2 = 0 then K (.inl (some (.int 1))) σ else K (.inl (some (.int 0))) σ))) : PW (d + 1) M_Header_readsIndicators 66 [.ref x0, uu, .int x2] [] σ K := by
  refine pw_aload_n dc_Header_readsIndicators_66 rfl rfl ?_
  obtain ⟨hs1, h⟩ := h
  refine pw_getI (c := 10) (k := 3) (f := 643) dc_Header_readsIndicators_67 fl_Header_63 rfl rfl hs1 ?_
  refine pw_if_le (tgt := 81) dc_Header_readsIndicators_70 (by decide) (fun hc => ?_) (fun hc => ?_)
  · have h := ite_t h hc
    refine pw_iconst (v := 0) dc_Header_readsIndicators_81 (by decide) ?_
    exact pw_iret dc_Header_readsIndicators_82 rfl (bo_nar (Or.inl rfl)) h
  · have h := ite_f h hc
    refine pw_iload_n dc_Header_readsIndicators_73 rfl ?_
    refine pw_if_ne (tgt := 81) dc_Header_readsIndicators_74 (by decide) (fun hc => ?_) (fun hc => ?_)
    · have h := ite_f h hc
      refine pw_iconst (v := 0) dc_Header_readsIndicators_81 (by decide) ?_
      exact pw_iret dc_Header_readsIndicators_82 rfl (bo_nar (Or.inl rfl)) h
    · have h := ite_t h hc
      refine pw_iconst (v := 1) dc_Header_readsIndicators_77 (by decide) ?_
      refine pw_goto (tgt := 82) dc_Header_readsIndicators_78 (by decide) ?_
      exact pw_iret dc_Header_readsIndicators_82 rfl (bo_nar (Or.inr rfl)) h
theorem dc_Header_isIndicator_0 : decode M_Header_isIndicator.2.1 0 = .ok (.aload_n 0, 1) := by decide +kernel
theorem dc_Header_isIndicator_1 : decode M_Header_isIndicator.2.1 1 = .ok (.getfield 38, 3) := by decide +kernel
theorem dc_Header_isIndicator_4 : decode M_Header_isIndicator.2.1 4 = .ok (.istore_n 2, 1) := by decide +kernel
theorem dc_Header_isIndicator_5 : decode M_Header_isIndicator.2.1 5 = .ok (.iload_n 2, 1) := by decide +kernel
theorem dc_Header_isIndicator_6 : decode M_Header_isIndicator.2.1 6 = .ok (.aload_n 0, 1) := by decide +kernel
theorem dc_Header_isIndicator_7 : decode M_Header_isIndicator.2.1 7 = .ok (.getfield 25, 3) := by decide +kernel
theorem dc_Header_isIndicator_10 : decode M_Header_isIndicator.2.1 10 = .ok (.if_icmp .ge 22, 3) := by decide +kernel
theorem dc_Header_isIndicator_13 : decode M_Header_isIndicator.2.1 13 = .ok (.aload_n 1, 1) := by decide +kernel
theorem dc_Header_isIndicator_14 : decode M_Header_isIndicator.2.1 14 = .ok (.iload_n 2, 1) := by decide +kernel
theorem dc_Header_isIndicator_15 : decode M_Header_isIndicator.2.1 15 = .ok (.invokevirtual 41, 3) := by decide +kernel
theorem dc_Header_isIndicator_18 : decode M_Header_isIndicator.2.1 18 = .ok (.invokestatic 73, 3) := by decide +kernel
theorem dc_Header_isIndicator_21 : decode M_Header_isIndicator.2.1 21 = .ok (.ifCond .ne 5, 3) := by decide +kernel
theorem dc_Header_isIndicator_24 : decode M_Header_isIndicator.2.1 24 = .ok (.iconst 0, 1) := by decide +kernel
theorem dc_Header_isIndicator_25 : decode M_Header_isIndicator.2.1 25 = .ok (.ireturn, 1) := by decide +kernel
theorem dc_Header_isIndicator_26 : decode M_Header_isIndicator.2.1 26 = .ok (.iinc 2 1, 3) := by decide +kernel
theorem dc_Header_isIndicator_29 : decode M_Header_isIndicator.2.1 29 = .ok (.goto (-24), 3) := by decide +kernel
theorem dc_Header_isIndicator_32 : decode M_Header_isIndicator.2.1 32 = .ok (.aload_n 0, 1) := by decide +kernel
theorem dc_Header_isIndicator_33 : decode M_Header_isIndicator.2.1 33 = .ok (.invokevirtual 35, 3) := by decide +kernel
theorem dc_Header_isIndicator_36 : decode M_Header_isIndicator.2.1 36 = .ok (.iconst 4, 1) := by decide +kernel
theorem dc_Header_isIndicator_37 : decode M_Header_isIndicator.2.1 37 = .ok (.if_icmp .ne 7, 3) := by decide +kernel
theorem dc_Header_isIndicator_40 : decode M_Header_isIndicator.2.1 40 = .ok (.iconst 1, 1) := by decide +kernel
theorem dc_Header_isIndicator_41 : decode M_Header_isIndicator.2.1 41 = .ok (.goto 4, 3) := by decide +kernel
theorem dc_Header_isIndicator_44 : decode M_Header_isIndicator.2.1 44 = .ok (.iconst 0, 1) := by decide +kernel
theorem dc_Header_isIndicator_45 : decode M_Header_isIndicator.2.1 45 = .ok (.ireturn, 1) := by decide +kernel
set_option maxRecDepth 20000 in
theorem e_Header_isIndicator_0 {d : Nat} {σ : PH} {K : PO → PH → Prop} (x0 : Nat) (x1 : Nat) (h : sh σ x0 = (1, 10) ∧ PW (d + 1) M_Header_isIndicator 5 [.ref x0, .ref x1, .int (gI σ 645 x0)] [] σ K) : PW (d + 1) M_Header_isIndicator 0 [.ref x0, .ref x1, uu] [] σ K := by
  refine pw_aload_n dc_Header_isIndicator_0 rfl rfl ?_
  obtain ⟨hs1, h⟩ := h
  refine pw_getI (c := 10) (k := 5) (f := 645) dc_Header_isIndicator_1 fl_Header_38 rfl rfl hs1 ?_
  refine pw_istore_n dc_Header_isIndicator_4 (by decide) ?_
  exact h
set_option maxRecDepth 20000 in
theorem e_Header_isIndicator_5 {d : Nat} {σ : PH} {K : PO → PH → Prop} (x0 : Nat) (x1 : Nat) (x2 : Int32) (h : sh σ x0 = (1, 10) ∧ (if (gI σ 646 x0) ≤ x2 then PW d M_Header_wordLength 0 [.ref x0] [] σ (kI (fun r1 σ1 => (if r1 = 4 then K (.inl (some (.int 1))) σ1 else K (.inl (some (.int 0))) σ1)) K) else sh σ x1 = (1, 3) ∧ PW d M_Text_at 0 [.ref x1, .int x2] [] σ (kI (fun r2 σ2 => PW d M_Signs_isLetter 0 [.int r2] [] σ2 (kI (fun r3 σ3 => (if r3 = 0 then K (.inl (some (.int 0))) σ3 else PW (d + 1) M_Header_isIndicator 5 [.ref x0, .ref x1, .int (x2 + 1)] [] σ3 K)) K)) K))) : PW (d + 1) M_Header_isIndicator 5 [.ref x0, .ref x1, .int x2] [] σ K := by
  refine pw_iload_n dc_Header_isIndicator_5 rfl ?_
  refine pw_aload_n dc_Header_isIndicator_6 rfl rfl ?_
  obtain ⟨hs1, h⟩ := h
  refine pw_getI (c := 10) (k := 6) (f := 646) dc_Header_isIndicator_7 fl_Header_25 rfl rfl hs1 ?_
  refine pw_icmp_ge (tgt := 32) dc_Header_isIndicator_10 (by decide) (fun hc => ?_) (fun hc => ?_)
  · have h := ite_t h hc
    refine pw_aload_n dc_Header_isIndicator_32 rfl rfl ?_
    refine pw_callV (vs := []) (st := []) (b := x0) (cn := 10) dc_Header_isIndicator_33 cq_Header_wordLength (List.mem_of_getElem? (i := 572) (by decide +kernel)) (List.mem_of_getElem? (i := 6) (by decide +kernel)) (List.mem_of_getElem? (i := 570) (by decide +kernel)) rfl hs1 rfl rfl (by decide) (cat_nil) (Nat.le_of_ble_eq_true rfl) (PW.mono (kI_kN (fun r1 σ1 h => ?_)) h)
    refine pw_iconst (v := 4) dc_Header_isIndicator_36 (by decide) ?_
    refine pw_icmp_ne (tgt := 44) dc_Header_isIndicator_37 (by decide) (fun hc => ?_) (fun hc => ?_)
    · have h := ite_f h hc
      refine pw_iconst (v := 0) dc_Header_isIndicator_44 (by decide) ?_
      exact pw_iret dc_Header_isIndicator_45 rfl (bo_nar (Or.inl rfl)) h
    · have h := ite_t h hc
      refine pw_iconst (v := 1) dc_Header_isIndicator_40 (by decide) ?_
      refine pw_goto (tgt := 45) dc_Header_isIndicator_41 (by decide) ?_
      exact pw_iret dc_Header_isIndicator_45 rfl (bo_nar (Or.inr rfl)) h
  · have h := ite_f h hc
    refine pw_aload_n dc_Header_isIndicator_13 rfl rfl ?_
    refine pw_iload_n dc_Header_isIndicator_14 rfl ?_
    obtain ⟨hs2, h⟩ := h
    refine pw_callV (vs := [.int x2]) (st := []) (b := x1) (cn := 3) dc_Header_isIndicator_15 cq_Text_at (List.mem_of_getElem? (i := 563) (by decide +kernel)) (List.mem_of_getElem? (i := 564) (by decide +kernel)) (List.mem_of_getElem? (i := 562) (by decide +kernel)) rfl hs2 rfl rfl (by decide) (cat_cons rfl (cat_nil)) (Nat.le_of_ble_eq_true rfl) (PW.mono (kI_kN (fun r2 σ2 h => ?_)) h)
    refine pw_callS (vs := [.int r2]) (st := []) dc_Header_isIndicator_18 cq_Signs_isLetter (List.mem_of_getElem? (i := 590) (by decide +kernel)) (List.mem_of_getElem? (i := 589) (by decide +kernel)) rfl rfl (cat_cons rfl (cat_nil)) (Nat.le_of_ble_eq_true rfl) (PW.mono (kI_kN (fun r3 σ3 h => ?_)) h)
    refine pw_if_ne (tgt := 26) dc_Header_isIndicator_21 (by decide) (fun hc => ?_) (fun hc => ?_)
    · have h := ite_f h hc
      refine pw_iincv (v := 1) dc_Header_isIndicator_26 (by decide) rfl (by decide) ?_
      refine pw_goto (tgt := 5) dc_Header_isIndicator_29 (by decide) ?_
      exact h
    · have h := ite_t h hc
      refine pw_iconst (v := 0) dc_Header_isIndicator_24 (by decide) ?_
      exact pw_iret dc_Header_isIndicator_25 rfl (bo_nar (Or.inl rfl)) h
theorem dc_Header_indicatorOf_0 : decode M_Header_indicatorOf.2.1 0 = .ok (.iconst 0, 1) := by decide +kernel
theorem dc_Header_indicatorOf_1 : decode M_Header_indicatorOf.2.1 1 = .ok (.istore_n 2, 1) := by decide +kernel
theorem dc_Header_indicatorOf_2 : decode M_Header_indicatorOf.2.1 2 = .ok (.aload_n 0, 1) := by decide +kernel
theorem dc_Header_indicatorOf_3 : decode M_Header_indicatorOf.2.1 3 = .ok (.getfield 38, 3) := by decide +kernel
theorem dc_Header_indicatorOf_6 : decode M_Header_indicatorOf.2.1 6 = .ok (.istore_n 3, 1) := by decide +kernel
theorem dc_Header_indicatorOf_7 : decode M_Header_indicatorOf.2.1 7 = .ok (.iload_n 3, 1) := by decide +kernel
theorem dc_Header_indicatorOf_8 : decode M_Header_indicatorOf.2.1 8 = .ok (.aload_n 0, 1) := by decide +kernel
theorem dc_Header_indicatorOf_9 : decode M_Header_indicatorOf.2.1 9 = .ok (.getfield 25, 3) := by decide +kernel
theorem dc_Header_indicatorOf_12 : decode M_Header_indicatorOf.2.1 12 = .ok (.if_icmp .ge 23, 3) := by decide +kernel
theorem dc_Header_indicatorOf_15 : decode M_Header_indicatorOf.2.1 15 = .ok (.iload_n 2, 1) := by decide +kernel
theorem dc_Header_indicatorOf_16 : decode M_Header_indicatorOf.2.1 16 = .ok (.bipush 26, 2) := by decide +kernel
theorem dc_Header_indicatorOf_18 : decode M_Header_indicatorOf.2.1 18 = .ok (.imul, 1) := by decide +kernel
theorem dc_Header_indicatorOf_19 : decode M_Header_indicatorOf.2.1 19 = .ok (.aload_n 1, 1) := by decide +kernel
theorem dc_Header_indicatorOf_20 : decode M_Header_indicatorOf.2.1 20 = .ok (.iload_n 3, 1) := by decide +kernel
theorem dc_Header_indicatorOf_21 : decode M_Header_indicatorOf.2.1 21 = .ok (.invokevirtual 41, 3) := by decide +kernel
theorem dc_Header_indicatorOf_24 : decode M_Header_indicatorOf.2.1 24 = .ok (.iadd, 1) := by decide +kernel
theorem dc_Header_indicatorOf_25 : decode M_Header_indicatorOf.2.1 25 = .ok (.bipush 65, 2) := by decide +kernel
theorem dc_Header_indicatorOf_27 : decode M_Header_indicatorOf.2.1 27 = .ok (.isub, 1) := by decide +kernel
theorem dc_Header_indicatorOf_28 : decode M_Header_indicatorOf.2.1 28 = .ok (.istore_n 2, 1) := by decide +kernel
theorem dc_Header_indicatorOf_29 : decode M_Header_indicatorOf.2.1 29 = .ok (.iinc 3 1, 3) := by decide +kernel
theorem dc_Header_indicatorOf_32 : decode M_Header_indicatorOf.2.1 32 = .ok (.goto (-25), 3) := by decide +kernel
theorem dc_Header_indicatorOf_35 : decode M_Header_indicatorOf.2.1 35 = .ok (.iload_n 2, 1) := by decide +kernel
theorem dc_Header_indicatorOf_36 : decode M_Header_indicatorOf.2.1 36 = .ok (.ireturn, 1) := by decide +kernel
set_option maxRecDepth 20000 in
theorem e_Header_indicatorOf_0 {d : Nat} {σ : PH} {K : PO → PH → Prop} (x0 : Nat) (x1 : Nat) (h : sh σ x0 = (1, 10) ∧ PW (d + 1) M_Header_indicatorOf 7 [.ref x0, .ref x1, .int 0, .int (gI σ 645 x0)] [] σ K) : PW (d + 1) M_Header_indicatorOf 0 [.ref x0, .ref x1, uu, uu] [] σ K := by
  refine pw_iconst (v := 0) dc_Header_indicatorOf_0 (by decide) ?_
  refine pw_istore_n dc_Header_indicatorOf_1 (by decide) ?_
  refine pw_aload_n dc_Header_indicatorOf_2 rfl rfl ?_
  obtain ⟨hs1, h⟩ := h
  refine pw_getI (c := 10) (k := 5) (f := 645) dc_Header_indicatorOf_3 fl_Header_38 rfl rfl hs1 ?_
  refine pw_istore_n dc_Header_indicatorOf_6 (by decide) ?_
  exact h
set_option maxRecDepth 20000 in
theorem e_Header_indicatorOf_7 {d : Nat} {σ : PH} {K : PO → PH → Prop} (x0 : Nat) (x1 : Nat) (x2 : Int32) (x3 : Int32) (h : sh σ x0 = (1, 10) ∧ (if (gI σ 646 x0) ≤ x3 then K (.inl (some (.int x2))) σ else sh σ x1 = (1, 3) ∧ PW d M_Text_at 0 [.ref x1, .int x3] [] σ (kI (fun r1 σ1 => PW (d + 1) M_Header_indicatorOf 7 [.ref x0, .ref x1, .int (((x2 * 26) + r1) - 65), .int (x3 + 1)] [] σ1 K) K))) : PW (d + 1) M_Header_indicatorOf 7 [.ref x0, .ref x1, .int x2, .int x3] [] σ K := by
  refine pw_iload_n dc_Header_indicatorOf_7 rfl ?_
  refine pw_aload_n dc_Header_indicatorOf_8 rfl rfl ?_
  obtain ⟨hs1, h⟩ := h
  refine pw_getI (c := 10) (k := 6) (f := 646) dc_Header_indicatorOf_9 fl_Header_25 rfl rfl hs1 ?_
  refine pw_icmp_ge (tgt := 35) dc_Header_indicatorOf_12 (by decide) (fun hc => ?_) (fun hc => ?_)
  · have h := ite_t h hc
    refine pw_iload_n dc_Header_indicatorOf_35 rfl ?_
    exact pw_iret dc_Header_indicatorOf_36 rfl rfl h
  · have h := ite_f h hc
    refine pw_iload_n dc_Header_indicatorOf_15 rfl ?_
    refine pw_bipush (v := 26) dc_Header_indicatorOf_16 (by decide) ?_
    refine pw_imul dc_Header_indicatorOf_18 ?_
    refine pw_aload_n dc_Header_indicatorOf_19 rfl rfl ?_
    refine pw_iload_n dc_Header_indicatorOf_20 rfl ?_
    obtain ⟨hs2, h⟩ := h
    refine pw_callV (vs := [.int x3]) (st := [.int (x2 * 26)]) (b := x1) (cn := 3) dc_Header_indicatorOf_21 cq_Text_at (List.mem_of_getElem? (i := 563) (by decide +kernel)) (List.mem_of_getElem? (i := 564) (by decide +kernel)) (List.mem_of_getElem? (i := 562) (by decide +kernel)) rfl hs2 rfl rfl (by decide) (cat_cons rfl (cat_nil)) (Nat.le_of_ble_eq_true rfl) (PW.mono (kI_kN (fun r1 σ1 h => ?_)) h)
    refine pw_iadd dc_Header_indicatorOf_24 ?_
    refine pw_bipush (v := 65) dc_Header_indicatorOf_25 (by decide) ?_
    refine pw_isub dc_Header_indicatorOf_27 ?_
    refine pw_istore_n dc_Header_indicatorOf_28 (by decide) ?_
    refine pw_iincv (v := 1) dc_Header_indicatorOf_29 (by decide) rfl (by decide) ?_
    refine pw_goto (tgt := 7) dc_Header_indicatorOf_32 (by decide) ?_
    exact h
theorem dc_Intake_init_0 : decode M_Intake_init.2.1 0 = .ok (.aload_n 0, 1) := by decide +kernel
theorem dc_Intake_init_1 : decode M_Intake_init.2.1 1 = .ok (.invokespecial 3, 3) := by decide +kernel
theorem dc_Intake_init_4 : decode M_Intake_init.2.1 4 = .ok (.aload_n 0, 1) := by decide +kernel
theorem dc_Intake_init_5 : decode M_Intake_init.2.1 5 = .ok (.new 9, 3) := by decide +kernel
theorem dc_Intake_init_8 : decode M_Intake_init.2.1 8 = .ok (.dup, 1) := by decide +kernel
theorem dc_Intake_init_9 : decode M_Intake_init.2.1 9 = .ok (.bipush 60, 2) := by decide +kernel
theorem dc_Intake_init_11 : decode M_Intake_init.2.1 11 = .ok (.invokespecial 11, 3) := by decide +kernel
theorem dc_Intake_init_14 : decode M_Intake_init.2.1 14 = .ok (.putfield 14, 3) := by decide +kernel
theorem dc_Intake_init_17 : decode M_Intake_init.2.1 17 = .ok (.return_, 1) := by decide +kernel
set_option maxRecDepth 20000 in
theorem e_Intake_init_0 {d : Nat} {σ : PH} {K : PO → PH → Prop} (x0 : Nat) (h : cc σ + 1 ≤ 601024 ∧ cs σ + 2 ≤ 7293034 ∧ (∀ σ1 : PH, σ1 = mk σ (1, 3) 2 → PW d M_Text_init 0 [.ref (nx σ), .int 60] [] σ1 (kV (fun σ2 => sh σ2 x0 = (1, 2) ∧ (∀ σ3 : PH, σ3 = pR σ2 128 x0 (some (nx σ)) → K (.inl none) σ3)) K))) : PW (d + 1) M_Intake_init 0 [.ref x0] [] σ K := by
  refine pw_aload_n dc_Intake_init_0 rfl rfl ?_
  refine pw_objInit dc_Intake_init_1 (List.mem_of_getElem? (i := 185) (by decide +kernel)) (List.mem_of_getElem? (i := 91) (by decide +kernel)) (List.mem_of_getElem? (i := 92) (by decide +kernel)) (Nat.le_of_ble_eq_true rfl) ?_
  refine pw_aload_n dc_Intake_init_4 rfl rfl ?_
  obtain ⟨hr1, hr2, h⟩ := h
  have h := h _ rfl
  refine pw_new (c := 3) dc_Intake_init_5 (by decide) (List.mem_of_getElem? (i := 186) (by decide +kernel)) rfl hr1 hr2 ?_
  refine pw_dup dc_Intake_init_8 rfl ?_
  refine pw_bipush (v := 60) dc_Intake_init_9 (by decide) ?_
  refine pw_callI (vs := [.int 60]) (st := [.ref (nx σ), .ref x0]) (b := (nx σ)) dc_Intake_init_11 cq_Text_init rfl rfl (List.mem_of_getElem? (i := 190) (by decide +kernel)) (List.mem_of_getElem? (i := 189) (by decide +kernel)) (Or.inl (List.mem_of_getElem? (i := 188) (by decide +kernel))) rfl rfl (by decide) (cat_cons rfl (cat_nil)) (Nat.le_of_ble_eq_true rfl) (PW.mono (kV_kN (fun σ2 h => ?_)) h)
  obtain ⟨hs1, h⟩ := h
  have h := h _ rfl
  refine pw_putR (c := 2) (k := 0) (f := 128) (v := some (nx σ)) dc_Intake_init_14 fl_Intake_14 (Or.inr ⟨rfl, rfl, rfl, List.mem_of_getElem? (i := 203) (by decide +kernel)⟩) rfl rfl hs1 ?_
  exact pw_vret dc_Intake_init_17 rfl h
theorem dc_Intake_begin_0 : decode M_Intake_begin.2.1 0 = .ok (.aload_n 0, 1) := by decide +kernel
theorem dc_Intake_begin_1 : decode M_Intake_begin.2.1 1 = .ok (.getfield 14, 3) := by decide +kernel
theorem dc_Intake_begin_4 : decode M_Intake_begin.2.1 4 = .ok (.invokevirtual 20, 3) := by decide +kernel
theorem dc_Intake_begin_7 : decode M_Intake_begin.2.1 7 = .ok (.aload_n 0, 1) := by decide +kernel
theorem dc_Intake_begin_8 : decode M_Intake_begin.2.1 8 = .ok (.iconst 0, 1) := by decide +kernel
theorem dc_Intake_begin_9 : decode M_Intake_begin.2.1 9 = .ok (.putfield 23, 3) := by decide +kernel
theorem dc_Intake_begin_12 : decode M_Intake_begin.2.1 12 = .ok (.aload_n 0, 1) := by decide +kernel
theorem dc_Intake_begin_13 : decode M_Intake_begin.2.1 13 = .ok (.iconst 0, 1) := by decide +kernel
theorem dc_Intake_begin_14 : decode M_Intake_begin.2.1 14 = .ok (.putfield 27, 3) := by decide +kernel
theorem dc_Intake_begin_17 : decode M_Intake_begin.2.1 17 = .ok (.aload_n 0, 1) := by decide +kernel
theorem dc_Intake_begin_18 : decode M_Intake_begin.2.1 18 = .ok (.iconst 0, 1) := by decide +kernel
theorem dc_Intake_begin_19 : decode M_Intake_begin.2.1 19 = .ok (.putfield 31, 3) := by decide +kernel
theorem dc_Intake_begin_22 : decode M_Intake_begin.2.1 22 = .ok (.aload_n 0, 1) := by decide +kernel
theorem dc_Intake_begin_23 : decode M_Intake_begin.2.1 23 = .ok (.iconst 0, 1) := by decide +kernel
theorem dc_Intake_begin_24 : decode M_Intake_begin.2.1 24 = .ok (.putfield 34, 3) := by decide +kernel
theorem dc_Intake_begin_27 : decode M_Intake_begin.2.1 27 = .ok (.return_, 1) := by decide +kernel
set_option maxRecDepth 20000 in
theorem e_Intake_begin_0 {d : Nat} {σ : PH} {K : PO → PH → Prop} (x0 : Nat) (h : sh σ x0 = (1, 2) ∧ (∃ b1 : Nat, gR σ 128 x0 = some b1 ∧ sh σ b1 = (1, 3) ∧ PW d M_Text_clear 0 [.ref b1] [] σ (kV (fun σ1 => sh σ1 x0 = (1, 2) ∧ (∀ σ2 : PH, σ2 = pI σ1 129 x0 0 → sh σ2 x0 = (1, 2) ∧ (∀ σ3 : PH, σ3 = pI σ2 130 x0 0 → sh σ3 x0 = (1, 2) ∧ (∀ σ4 : PH, σ4 = pI σ3 131 x0 0 → sh σ4 x0 = (1, 2) ∧ (∀ σ5 : PH, σ5 = pI σ4 132 x0 0 → K (.inl none) σ5))))) K))) : PW (d + 1) M_Intake_begin 0 [.ref x0] [] σ K := by
  refine pw_aload_n dc_Intake_begin_0 rfl rfl ?_
  obtain ⟨hs1, h⟩ := h
  refine pw_getR (c := 2) (k := 0) (f := 128) dc_Intake_begin_1 fl_Intake_14 rfl rfl hs1 ?_
  obtain ⟨b1, hb1, h⟩ := h
  refine PW.top (v' := .ref b1) (congrArg va_rf hb1) ?_
  obtain ⟨hs2, h⟩ := h
  refine pw_callV (vs := []) (st := []) (b := b1) (cn := 3) dc_Intake_begin_4 cq_Text_clear (List.mem_of_getElem? (i := 374) (by decide +kernel)) (List.mem_of_getElem? (i := 375) (by decide +kernel)) (List.mem_of_getElem? (i := 373) (by decide +kernel)) rfl hs2 rfl rfl (by decide) (cat_nil) (Nat.le_of_ble_eq_true rfl) (PW.mono (kV_kN (fun σ1 h => ?_)) h)
  refine pw_aload_n dc_Intake_begin_7 rfl rfl ?_
  refine pw_iconst (v := 0) dc_Intake_begin_8 (by decide) ?_
  obtain ⟨hs3, h⟩ := h
  have h := h _ rfl
  refine pw_putZ (c := 2) (k := 1) (f := 129) dc_Intake_begin_9 fl_Intake_23 (Or.inl rfl) rfl rfl hs3 (Or.inl rfl) ?_
  refine pw_aload_n dc_Intake_begin_12 rfl rfl ?_
  refine pw_iconst (v := 0) dc_Intake_begin_13 (by decide) ?_
  obtain ⟨hs4, h⟩ := h
  have h := h _ rfl
  refine pw_putI (c := 2) (k := 2) (f := 130) dc_Intake_begin_14 fl_Intake_27 (Or.inl rfl) rfl rfl hs4 ?_
  refine pw_aload_n dc_Intake_begin_17 rfl rfl ?_
  refine pw_iconst (v := 0) dc_Intake_begin_18 (by decide) ?_
  obtain ⟨hs5, h⟩ := h
  have h := h _ rfl
  refine pw_putI (c := 2) (k := 3) (f := 131) dc_Intake_begin_19 fl_Intake_31 (Or.inl rfl) rfl rfl hs5 ?_
  refine pw_aload_n dc_Intake_begin_22 rfl rfl ?_
  refine pw_iconst (v := 0) dc_Intake_begin_23 (by decide) ?_
  obtain ⟨hs6, h⟩ := h
  have h := h _ rfl
  refine pw_putI (c := 2) (k := 4) (f := 132) dc_Intake_begin_24 fl_Intake_34 (Or.inl rfl) rfl rfl hs6 ?_
  exact pw_vret dc_Intake_begin_27 rfl h
theorem dc_Intake_takesEnd_0 : decode M_Intake_takesEnd.2.1 0 = .ok (.iload_n 1, 1) := by decide +kernel
theorem dc_Intake_takesEnd_1 : decode M_Intake_takesEnd.2.1 1 = .ok (.bipush 28, 2) := by decide +kernel
theorem dc_Intake_takesEnd_3 : decode M_Intake_takesEnd.2.1 3 = .ok (.if_icmp .eq 9, 3) := by decide +kernel
theorem dc_Intake_takesEnd_6 : decode M_Intake_takesEnd.2.1 6 = .ok (.iload_n 1, 1) := by decide +kernel
theorem dc_Intake_takesEnd_7 : decode M_Intake_takesEnd.2.1 7 = .ok (.bipush 29, 2) := by decide +kernel
theorem dc_Intake_takesEnd_9 : decode M_Intake_takesEnd.2.1 9 = .ok (.if_icmp .ne 20, 3) := by decide +kernel
theorem dc_Intake_takesEnd_12 : decode M_Intake_takesEnd.2.1 12 = .ok (.aload_n 0, 1) := by decide +kernel
theorem dc_Intake_takesEnd_13 : decode M_Intake_takesEnd.2.1 13 = .ok (.iload_n 1, 1) := by decide +kernel
theorem dc_Intake_takesEnd_14 : decode M_Intake_takesEnd.2.1 14 = .ok (.bipush 29, 2) := by decide +kernel
theorem dc_Intake_takesEnd_16 : decode M_Intake_takesEnd.2.1 16 = .ok (.if_icmp .ne 7, 3) := by decide +kernel
theorem dc_Intake_takesEnd_19 : decode M_Intake_takesEnd.2.1 19 = .ok (.iconst 1, 1) := by decide +kernel
theorem dc_Intake_takesEnd_20 : decode M_Intake_takesEnd.2.1 20 = .ok (.goto 4, 3) := by decide +kernel
theorem dc_Intake_takesEnd_23 : decode M_Intake_takesEnd.2.1 23 = .ok (.iconst 0, 1) := by decide +kernel
theorem dc_Intake_takesEnd_24 : decode M_Intake_takesEnd.2.1 24 = .ok (.putfield 23, 3) := by decide +kernel
theorem dc_Intake_takesEnd_27 : decode M_Intake_takesEnd.2.1 27 = .ok (.iconst 0, 1) := by decide +kernel
theorem dc_Intake_takesEnd_28 : decode M_Intake_takesEnd.2.1 28 = .ok (.ireturn, 1) := by decide +kernel
theorem dc_Intake_takesEnd_29 : decode M_Intake_takesEnd.2.1 29 = .ok (.iload_n 1, 1) := by decide +kernel
theorem dc_Intake_takesEnd_30 : decode M_Intake_takesEnd.2.1 30 = .ok (.aload_n 0, 1) := by decide +kernel
theorem dc_Intake_takesEnd_31 : decode M_Intake_takesEnd.2.1 31 = .ok (.getfield 23, 3) := by decide +kernel
theorem dc_Intake_takesEnd_34 : decode M_Intake_takesEnd.2.1 34 = .ok (.invokestatic 37, 3) := by decide +kernel
theorem dc_Intake_takesEnd_37 : decode M_Intake_takesEnd.2.1 37 = .ok (.istore_n 2, 1) := by decide +kernel
theorem dc_Intake_takesEnd_38 : decode M_Intake_takesEnd.2.1 38 = .ok (.iload_n 2, 1) := by decide +kernel
theorem dc_Intake_takesEnd_39 : decode M_Intake_takesEnd.2.1 39 = .ok (.bipush 10, 2) := by decide +kernel
theorem dc_Intake_takesEnd_41 : decode M_Intake_takesEnd.2.1 41 = .ok (.if_icmp .ne 13, 3) := by decide +kernel
theorem dc_Intake_takesEnd_44 : decode M_Intake_takesEnd.2.1 44 = .ok (.aload_n 0, 1) := by decide +kernel
theorem dc_Intake_takesEnd_45 : decode M_Intake_takesEnd.2.1 45 = .ok (.getfield 34, 3) := by decide +kernel
theorem dc_Intake_takesEnd_48 : decode M_Intake_takesEnd.2.1 48 = .ok (.iconst 4, 1) := by decide +kernel
theorem dc_Intake_takesEnd_49 : decode M_Intake_takesEnd.2.1 49 = .ok (.if_icmp .ne 5, 3) := by decide +kernel
theorem dc_Intake_takesEnd_52 : decode M_Intake_takesEnd.2.1 52 = .ok (.iconst 1, 1) := by decide +kernel
theorem dc_Intake_takesEnd_53 : decode M_Intake_takesEnd.2.1 53 = .ok (.ireturn, 1) := by decide +kernel
theorem dc_Intake_takesEnd_54 : decode M_Intake_takesEnd.2.1 54 = .ok (.iload_n 2, 1) := by decide +kernel
theorem dc_Intake_takesEnd_55 : decode M_Intake_takesEnd.2.1 55 = .ok (.ifCond .eq 8, 3) := by decide +kernel
theorem dc_Intake_takesEnd_58 : decode M_Intake_takesEnd.2.1 58 = .ok (.aload_n 0, 1) := by decide +kernel
theorem dc_Intake_takesEnd_59 : decode M_Intake_takesEnd.2.1 59 = .ok (.iload_n 2, 1) := by decide +kernel
theorem dc_Intake_takesEnd_60 : decode M_Intake_takesEnd.2.1 60 = .ok (.invokevirtual 43, 3) := by decide +kernel
theorem dc_Intake_takesEnd_63 : decode M_Intake_takesEnd.2.1 63 = .ok (.iconst 0, 1) := by decide +kernel
theorem dc_Intake_takesEnd_64 : decode M_Intake_takesEnd.2.1 64 = .ok (.ireturn, 1) := by decide +kernel
set_option maxRecDepth 20000 in
theorem e_Intake_takesEnd_0 {d : Nat} {σ : PH} {K : PO → PH → Prop} (x0 : Nat) (x1 : Int32) (h : (if x1 = 28 then PW (d + 1) M_Intake_takesEnd 12 [.ref x0, .int x1, uu] [] σ K else (if x1 = 29 then PW (d + 1) M_Intake_takesEnd 12 [.ref x0, .int x1, uu] [] σ K else sh σ x0 = (1, 2) ∧ PW d M_Signs_characterOf 0 [.int x1, .int (gI σ 129 x0)] [] σ (kI (fun r1 σ1 => (if r1 = 10 then sh σ1 x0 = (1, 2) ∧ (if (gI σ1 132 x0) = 4 then K (.inl (some (.int 1))) σ1 else PW (d + 1) M_Intake_takesEnd 54 [.ref x0, uu, .int r1] [] σ1 K) else PW (d + 1) M_Intake_takesEnd 54 [.ref x0, uu, .int r1] [] σ1 K)) K)))) : PW (d + 1) M_Intake_takesEnd 0 [.ref x0, .int x1, uu] [] σ K := by
  refine pw_iload_n dc_Intake_takesEnd_0 rfl ?_
  refine pw_bipush (v := 28) dc_Intake_takesEnd_1 (by decide) ?_
  refine pw_icmp_eq (tgt := 12) dc_Intake_takesEnd_3 (by decide) (fun hc => ?_) (fun hc => ?_)
  · have h := ite_t h hc
    exact h
  · have h := ite_f h hc
    refine pw_iload_n dc_Intake_takesEnd_6 rfl ?_
    refine pw_bipush (v := 29) dc_Intake_takesEnd_7 (by decide) ?_
    refine pw_icmp_ne (tgt := 29) dc_Intake_takesEnd_9 (by decide) (fun hc => ?_) (fun hc => ?_)
    · have h := ite_f h hc
      refine pw_iload_n dc_Intake_takesEnd_29 rfl ?_
      refine pw_aload_n dc_Intake_takesEnd_30 rfl rfl ?_
      obtain ⟨hs1, h⟩ := h
      refine pw_getI (c := 2) (k := 1) (f := 129) dc_Intake_takesEnd_31 fl_Intake_23 rfl rfl hs1 ?_
      refine pw_callS (vs := [.int x1, .int (gI σ 129 x0)]) (st := []) dc_Intake_takesEnd_34 cq_Signs_characterOf (List.mem_of_getElem? (i := 471) (by decide +kernel)) (List.mem_of_getElem? (i := 470) (by decide +kernel)) rfl rfl (cat_cons rfl (cat_cons rfl (cat_nil))) (Nat.le_of_ble_eq_true rfl) (PW.mono (kI_kN (fun r1 σ1 h => ?_)) h)
      refine pw_istore_n dc_Intake_takesEnd_37 (by decide) ?_
      refine pw_iload_n dc_Intake_takesEnd_38 rfl ?_
      refine pw_bipush (v := 10) dc_Intake_takesEnd_39 (by decide) ?_
      refine pw_icmp_ne (tgt := 54) dc_Intake_takesEnd_41 (by decide) (fun hc => ?_) (fun hc => ?_)
      · have h := ite_f h hc
        refine PW.drop (ls' := [.ref x0, uu, .int r1]) ⟨Or.inl rfl, Or.inr rfl, Or.inl rfl, trivial⟩ ?_
        exact h
      · have h := ite_t h hc
        refine pw_aload_n dc_Intake_takesEnd_44 rfl rfl ?_
        obtain ⟨hs2, h⟩ := h
        refine pw_getI (c := 2) (k := 4) (f := 132) dc_Intake_takesEnd_45 fl_Intake_34 rfl rfl hs2 ?_
        refine pw_iconst (v := 4) dc_Intake_takesEnd_48 (by decide) ?_
        refine pw_icmp_ne (tgt := 54) dc_Intake_takesEnd_49 (by decide) (fun hc => ?_) (fun hc => ?_)
        · have h := ite_f h hc
          refine PW.drop (ls' := [.ref x0, uu, .int r1]) ⟨Or.inl rfl, Or.inr rfl, Or.inl rfl, trivial⟩ ?_
          exact h
        · have h := ite_t h hc
          refine pw_iconst (v := 1) dc_Intake_takesEnd_52 (by decide) ?_
          exact pw_iret dc_Intake_takesEnd_53 rfl (bo_nar (Or.inr rfl)) h
    · have h := ite_t h hc
      exact h
set_option maxRecDepth 20000 in
theorem e_Intake_takesEnd_12 {d : Nat} {σ : PH} {K : PO → PH → Prop} (x0 : Nat) (x1 : Int32) (h : (if x1 = 29 then sh σ x0 = (1, 2) ∧ (∀ σ2 : PH, σ2 = pI σ 129 x0 1 → K (.inl (some (.int 0))) σ2) else sh σ x0 = (1, 2) ∧ (∀ σ1 : PH, σ1 = pI σ 129 x0 0 → K (.inl (some (.int 0))) σ1))) : PW (d + 1) M_Intake_takesEnd 12 [.ref x0, .int x1, uu] [] σ K := by
  refine pw_aload_n dc_Intake_takesEnd_12 rfl rfl ?_
  refine pw_iload_n dc_Intake_takesEnd_13 rfl ?_
  refine pw_bipush (v := 29) dc_Intake_takesEnd_14 (by decide) ?_
  refine pw_icmp_ne (tgt := 23) dc_Intake_takesEnd_16 (by decide) (fun hc => ?_) (fun hc => ?_)
  · have h := ite_f h hc
    refine pw_iconst (v := 0) dc_Intake_takesEnd_23 (by decide) ?_
    obtain ⟨hs1, h⟩ := h
    have h := h _ rfl
    refine pw_putZ (c := 2) (k := 1) (f := 129) dc_Intake_takesEnd_24 fl_Intake_23 (Or.inl rfl) rfl rfl hs1 (Or.inl rfl) ?_
    refine pw_iconst (v := 0) dc_Intake_takesEnd_27 (by decide) ?_
    exact pw_iret dc_Intake_takesEnd_28 rfl (bo_nar (Or.inl rfl)) h
  · have h := ite_t h hc
    refine pw_iconst (v := 1) dc_Intake_takesEnd_19 (by decide) ?_
    refine pw_goto (tgt := 24) dc_Intake_takesEnd_20 (by decide) ?_
    obtain ⟨hs2, h⟩ := h
    have h := h _ rfl
    refine pw_putZ (c := 2) (k := 1) (f := 129) dc_Intake_takesEnd_24 fl_Intake_23 (Or.inl rfl) rfl rfl hs2 (Or.inr rfl) ?_
    refine pw_iconst (v := 0) dc_Intake_takesEnd_27 (by decide) ?_
    exact pw_iret dc_Intake_takesEnd_28 rfl (bo_nar (Or.inl rfl)) h
set_option maxRecDepth 20000 in
theorem e_Intake_takesEnd_54 {d : Nat} {σ : PH} {K : PO → PH → Prop} (x0 : Nat) (x2 : Int32) (h : (if x2 = 0 then K (.inl (some (.int 0))) σ else sh σ x0 = (1, 2) ∧ PW d M_Intake_gather 0 [.ref x0, .int x2] [] σ (kV (fun σ1 => K (.inl (some (.int 0))) σ1) K))) : PW (d + 1) M_Intake_takesEnd 54 [.ref x0, uu, .int x2] [] σ K := by
  refine pw_iload_n dc_Intake_takesEnd_54 rfl ?_
  refine pw_if_eq (tgt := 63) dc_Intake_takesEnd_55 (by decide) (fun hc => ?_) (fun hc => ?_)
  · have h := ite_t h hc
    refine pw_iconst (v := 0) dc_Intake_takesEnd_63 (by decide) ?_
    exact pw_iret dc_Intake_takesEnd_64 rfl (bo_nar (Or.inl rfl)) h
  · have h := ite_f h hc
    refine pw_aload_n dc_Intake_takesEnd_58 rfl rfl ?_
    refine pw_iload_n dc_Intake_takesEnd_59 rfl ?_
    obtain ⟨hs1, h⟩ := h
    refine pw_callV (vs := [.int x2]) (st := []) (b := x0) (cn := 2) dc_Intake_takesEnd_60 cq_Intake_gather (List.mem_of_getElem? (i := 524) (by decide +kernel)) (List.mem_of_getElem? (i := 2) (by decide +kernel)) (List.mem_of_getElem? (i := 522) (by decide +kernel)) rfl hs1 rfl rfl (by decide) (cat_cons rfl (cat_nil)) (Nat.le_of_ble_eq_true rfl) (PW.mono (kV_kN (fun σ1 h => ?_)) h)
    refine pw_iconst (v := 0) dc_Intake_takesEnd_63 (by decide) ?_
    exact pw_iret dc_Intake_takesEnd_64 rfl (bo_nar (Or.inl rfl)) h
theorem dc_Intake_gather_0 : decode M_Intake_gather.2.1 0 = .ok (.aload_n 0, 1) := by decide +kernel
theorem dc_Intake_gather_1 : decode M_Intake_gather.2.1 1 = .ok (.getfield 14, 3) := by decide +kernel
theorem dc_Intake_gather_4 : decode M_Intake_gather.2.1 4 = .ok (.iload_n 1, 1) := by decide +kernel
theorem dc_Intake_gather_5 : decode M_Intake_gather.2.1 5 = .ok (.invokevirtual 47, 3) := by decide +kernel
theorem dc_Intake_gather_8 : decode M_Intake_gather.2.1 8 = .ok (.aload_n 0, 1) := by decide +kernel
theorem dc_Intake_gather_9 : decode M_Intake_gather.2.1 9 = .ok (.aload_n 0, 1) := by decide +kernel
theorem dc_Intake_gather_10 : decode M_Intake_gather.2.1 10 = .ok (.getfield 27, 3) := by decide +kernel
theorem dc_Intake_gather_13 : decode M_Intake_gather.2.1 13 = .ok (.iconst 1, 1) := by decide +kernel
theorem dc_Intake_gather_14 : decode M_Intake_gather.2.1 14 = .ok (.iadd, 1) := by decide +kernel
theorem dc_Intake_gather_15 : decode M_Intake_gather.2.1 15 = .ok (.bipush 61, 2) := by decide +kernel
theorem dc_Intake_gather_17 : decode M_Intake_gather.2.1 17 = .ok (.invokestatic 50, 3) := by decide +kernel
theorem dc_Intake_gather_20 : decode M_Intake_gather.2.1 20 = .ok (.putfield 27, 3) := by decide +kernel
theorem dc_Intake_gather_23 : decode M_Intake_gather.2.1 23 = .ok (.iload_n 1, 1) := by decide +kernel
theorem dc_Intake_gather_24 : decode M_Intake_gather.2.1 24 = .ok (.bipush 10, 2) := by decide +kernel
theorem dc_Intake_gather_26 : decode M_Intake_gather.2.1 26 = .ok (.if_icmp .ne 19, 3) := by decide +kernel
theorem dc_Intake_gather_29 : decode M_Intake_gather.2.1 29 = .ok (.aload_n 0, 1) := by decide +kernel
theorem dc_Intake_gather_30 : decode M_Intake_gather.2.1 30 = .ok (.aload_n 0, 1) := by decide +kernel
theorem dc_Intake_gather_31 : decode M_Intake_gather.2.1 31 = .ok (.getfield 27, 3) := by decide +kernel
theorem dc_Intake_gather_34 : decode M_Intake_gather.2.1 34 = .ok (.putfield 31, 3) := by decide +kernel
theorem dc_Intake_gather_37 : decode M_Intake_gather.2.1 37 = .ok (.aload_n 0, 1) := by decide +kernel
theorem dc_Intake_gather_38 : decode M_Intake_gather.2.1 38 = .ok (.iconst 0, 1) := by decide +kernel
theorem dc_Intake_gather_39 : decode M_Intake_gather.2.1 39 = .ok (.putfield 34, 3) := by decide +kernel
theorem dc_Intake_gather_42 : decode M_Intake_gather.2.1 42 = .ok (.goto 31, 3) := by decide +kernel
theorem dc_Intake_gather_45 : decode M_Intake_gather.2.1 45 = .ok (.aload_n 0, 1) := by decide +kernel
theorem dc_Intake_gather_46 : decode M_Intake_gather.2.1 46 = .ok (.iload_n 1, 1) := by decide +kernel
theorem dc_Intake_gather_47 : decode M_Intake_gather.2.1 47 = .ok (.bipush 78, 2) := by decide +kernel
theorem dc_Intake_gather_49 : decode M_Intake_gather.2.1 49 = .ok (.if_icmp .ne 20, 3) := by decide +kernel
theorem dc_Intake_gather_52 : decode M_Intake_gather.2.1 52 = .ok (.aload_n 0, 1) := by decide +kernel
theorem dc_Intake_gather_53 : decode M_Intake_gather.2.1 53 = .ok (.getfield 34, 3) := by decide +kernel
theorem dc_Intake_gather_56 : decode M_Intake_gather.2.1 56 = .ok (.iconst 4, 1) := by decide +kernel
theorem dc_Intake_gather_57 : decode M_Intake_gather.2.1 57 = .ok (.if_icmp .ge 12, 3) := by decide +kernel
theorem dc_Intake_gather_60 : decode M_Intake_gather.2.1 60 = .ok (.aload_n 0, 1) := by decide +kernel
theorem dc_Intake_gather_61 : decode M_Intake_gather.2.1 61 = .ok (.getfield 34, 3) := by decide +kernel
theorem dc_Intake_gather_64 : decode M_Intake_gather.2.1 64 = .ok (.iconst 1, 1) := by decide +kernel
theorem dc_Intake_gather_65 : decode M_Intake_gather.2.1 65 = .ok (.iadd, 1) := by decide +kernel
theorem dc_Intake_gather_66 : decode M_Intake_gather.2.1 66 = .ok (.goto 4, 3) := by decide +kernel
theorem dc_Intake_gather_69 : decode M_Intake_gather.2.1 69 = .ok (.iconst 5, 1) := by decide +kernel
theorem dc_Intake_gather_70 : decode M_Intake_gather.2.1 70 = .ok (.putfield 34, 3) := by decide +kernel
theorem dc_Intake_gather_73 : decode M_Intake_gather.2.1 73 = .ok (.return_, 1) := by decide +kernel
set_option maxRecDepth 20000 in
theorem e_Intake_gather_0 {d : Nat} {σ : PH} {K : PO → PH → Prop} (x0 : Nat) (x1 : Int32) (h : sh σ x0 = (1, 2) ∧ (∃ b1 : Nat, gR σ 128 x0 = some b1 ∧ sh σ b1 = (1, 3) ∧ PW d M_Text_add 0 [.ref b1, .int x1] [] σ (kV (fun σ1 => sh σ1 x0 = (1, 2) ∧ (∀ σ2 : PH, σ2 = pI σ1 130 x0 (if 61 < ((gI σ1 130 x0) + 1) then 61 else (gI σ1 130 x0) + 1) → (if x1 = 10 then sh σ2 x0 = (1, 2) ∧ (∀ σ6 : PH, σ6 = pI σ2 131 x0 (gI σ2 130 x0) → sh σ6 x0 = (1, 2) ∧ (∀ σ7 : PH, σ7 = pI σ6 132 x0 0 → K (.inl none) σ7)) else (if x1 = 78 then sh σ2 x0 = (1, 2) ∧ (if 4 ≤ (gI σ2 132 x0) then (∀ σ4 : PH, σ4 = pI σ2 132 x0 5 → K (.inl none) σ4) else (∀ σ5 : PH, σ5 = pI σ2 132 x0 ((gI σ2 132 x0) + 1) → K (.inl none) σ5)) else sh σ2 x0 = (1, 2) ∧ (∀ σ3 : PH, σ3 = pI σ2 132 x0 5 → K (.inl none) σ3))))) K))) : PW (d + 1) M_Intake_gather 0 [.ref x0, .int x1] [] σ K := by
  refine pw_aload_n dc_Intake_gather_0 rfl rfl ?_
  obtain ⟨hs1, h⟩ := h
  refine pw_getR (c := 2) (k := 0) (f := 128) dc_Intake_gather_1 fl_Intake_14 rfl rfl hs1 ?_
  obtain ⟨b1, hb1, h⟩ := h
  refine PW.top (v' := .ref b1) (congrArg va_rf hb1) ?_
  refine pw_iload_n dc_Intake_gather_4 rfl ?_
  obtain ⟨hs2, h⟩ := h
  refine pw_callV (vs := [.int x1]) (st := []) (b := b1) (cn := 3) dc_Intake_gather_5 cq_Text_add (List.mem_of_getElem? (i := 527) (by decide +kernel)) (List.mem_of_getElem? (i := 528) (by decide +kernel)) (List.mem_of_getElem? (i := 526) (by decide +kernel)) rfl hs2 rfl rfl (by decide) (cat_cons rfl (cat_nil)) (Nat.le_of_ble_eq_true rfl) (PW.mono (kV_kN (fun σ1 h => ?_)) h)
  refine pw_aload_n dc_Intake_gather_8 rfl rfl ?_
  refine pw_aload_n dc_Intake_gather_9 rfl rfl ?_
  obtain ⟨hs3, h⟩ := h
  refine pw_getI (c := 2) (k := 2) (f := 130) dc_Intake_gather_10 fl_Intake_27 rfl rfl hs3 ?_
  refine pw_iconst (v := 1) dc_Intake_gather_13 (by decide) ?_
  refine pw_iadd dc_Intake_gather_14 ?_
  refine pw_bipush (v := 61) dc_Intake_gather_15 (by decide) ?_
  refine pw_mmin dc_Intake_gather_17 (List.mem_of_getElem? (i := 530) (by decide +kernel)) (Nat.le_of_ble_eq_true rfl) ?_
  have h := h _ rfl
  refine pw_putI (c := 2) (k := 2) (f := 130) dc_Intake_gather_20 fl_Intake_27 (Or.inl rfl) rfl rfl hs3 ?_
  refine pw_iload_n dc_Intake_gather_23 rfl ?_
  refine pw_bipush (v := 10) dc_Intake_gather_24 (by decide) ?_
  refine pw_icmp_ne (tgt := 45) dc_Intake_gather_26 (by decide) (fun hc => ?_) (fun hc => ?_)
  · have h := ite_f h hc
    refine pw_aload_n dc_Intake_gather_45 rfl rfl ?_
    refine pw_iload_n dc_Intake_gather_46 rfl ?_
    refine pw_bipush (v := 78) dc_Intake_gather_47 (by decide) ?_
    refine pw_icmp_ne (tgt := 69) dc_Intake_gather_49 (by decide) (fun hc => ?_) (fun hc => ?_)
    · have h := ite_f h hc
      refine pw_iconst (v := 5) dc_Intake_gather_69 (by decide) ?_
      obtain ⟨hs4, h⟩ := h
      have h := h _ rfl
      refine pw_putI (c := 2) (k := 4) (f := 132) dc_Intake_gather_70 fl_Intake_34 (Or.inl rfl) rfl rfl hs4 ?_
      exact pw_vret dc_Intake_gather_73 rfl h
    · have h := ite_t h hc
      refine pw_aload_n dc_Intake_gather_52 rfl rfl ?_
      obtain ⟨hs5, h⟩ := h
      refine pw_getI (c := 2) (k := 4) (f := 132) dc_Intake_gather_53 fl_Intake_34 rfl rfl hs5 ?_
      refine pw_iconst (v := 4) dc_Intake_gather_56 (by decide) ?_
      refine pw_icmp_ge (tgt := 69) dc_Intake_gather_57 (by decide) (fun hc => ?_) (fun hc => ?_)
      · have h := ite_t h hc
        refine pw_iconst (v := 5) dc_Intake_gather_69 (by decide) ?_
        have h := h _ rfl
        refine pw_putI (c := 2) (k := 4) (f := 132) dc_Intake_gather_70 fl_Intake_34 (Or.inl rfl) rfl rfl hs5 ?_
        exact pw_vret dc_Intake_gather_73 rfl h
      · have h := ite_f h hc
        refine pw_aload_n dc_Intake_gather_60 rfl rfl ?_
        refine pw_getI (c := 2) (k := 4) (f := 132) dc_Intake_gather_61 fl_Intake_34 rfl rfl hs5 ?_
        refine pw_iconst (v := 1) dc_Intake_gather_64 (by decide) ?_
        refine pw_iadd dc_Intake_gather_65 ?_
        refine pw_goto (tgt := 70) dc_Intake_gather_66 (by decide) ?_
        have h := h _ rfl
        refine pw_putI (c := 2) (k := 4) (f := 132) dc_Intake_gather_70 fl_Intake_34 (Or.inl rfl) rfl rfl hs5 ?_
        exact pw_vret dc_Intake_gather_73 rfl h
  · have h := ite_t h hc
    refine pw_aload_n dc_Intake_gather_29 rfl rfl ?_
    refine pw_aload_n dc_Intake_gather_30 rfl rfl ?_
    obtain ⟨hs6, h⟩ := h
    refine pw_getI (c := 2) (k := 2) (f := 130) dc_Intake_gather_31 fl_Intake_27 rfl rfl hs6 ?_
    have h := h _ rfl
    refine pw_putI (c := 2) (k := 3) (f := 131) dc_Intake_gather_34 fl_Intake_31 (Or.inl rfl) rfl rfl hs6 ?_
    refine pw_aload_n dc_Intake_gather_37 rfl rfl ?_
    refine pw_iconst (v := 0) dc_Intake_gather_38 (by decide) ?_
    obtain ⟨hs7, h⟩ := h
    have h := h _ rfl
    refine pw_putI (c := 2) (k := 4) (f := 132) dc_Intake_gather_39 fl_Intake_34 (Or.inl rfl) rfl rfl hs7 ?_
    refine pw_goto (tgt := 73) dc_Intake_gather_42 (by decide) ?_
    exact pw_vret dc_Intake_gather_73 rfl h
theorem dc_Intake_textBeforeEnd_0 : decode M_Intake_textBeforeEnd.2.1 0 = .ok (.aload_n 0, 1) := by decide +kernel
theorem dc_Intake_textBeforeEnd_1 : decode M_Intake_textBeforeEnd.2.1 1 = .ok (.getfield 14, 3) := by decide +kernel
theorem dc_Intake_textBeforeEnd_4 : decode M_Intake_textBeforeEnd.2.1 4 = .ok (.aload_n 0, 1) := by decide +kernel
theorem dc_Intake_textBeforeEnd_5 : decode M_Intake_textBeforeEnd.2.1 5 = .ok (.getfield 31, 3) := by decide +kernel
theorem dc_Intake_textBeforeEnd_8 : decode M_Intake_textBeforeEnd.2.1 8 = .ok (.invokevirtual 56, 3) := by decide +kernel
theorem dc_Intake_textBeforeEnd_11 : decode M_Intake_textBeforeEnd.2.1 11 = .ok (.aload_n 0, 1) := by decide +kernel
theorem dc_Intake_textBeforeEnd_12 : decode M_Intake_textBeforeEnd.2.1 12 = .ok (.getfield 14, 3) := by decide +kernel
theorem dc_Intake_textBeforeEnd_15 : decode M_Intake_textBeforeEnd.2.1 15 = .ok (.areturn, 1) := by decide +kernel
set_option maxRecDepth 20000 in
theorem e_Intake_textBeforeEnd_0 {d : Nat} {σ : PH} {K : PO → PH → Prop} (x0 : Nat) (h : sh σ x0 = (1, 2) ∧ (∃ b1 : Nat, gR σ 128 x0 = some b1 ∧ sh σ b1 = (1, 3) ∧ PW d M_Text_shortenTo 0 [.ref b1, .int (gI σ 131 x0)] [] σ (kV (fun σ1 => sh σ1 x0 = (1, 2) ∧ K (.inl (some (va_rf (gR σ1 128 x0)))) σ1) K))) : PW (d + 1) M_Intake_textBeforeEnd 0 [.ref x0] [] σ K := by
  refine pw_aload_n dc_Intake_textBeforeEnd_0 rfl rfl ?_
  obtain ⟨hs1, h⟩ := h
  refine pw_getR (c := 2) (k := 0) (f := 128) dc_Intake_textBeforeEnd_1 fl_Intake_14 rfl rfl hs1 ?_
  obtain ⟨b1, hb1, h⟩ := h
  refine PW.top (v' := .ref b1) (congrArg va_rf hb1) ?_
  refine pw_aload_n dc_Intake_textBeforeEnd_4 rfl rfl ?_
  refine pw_getI (c := 2) (k := 3) (f := 131) dc_Intake_textBeforeEnd_5 fl_Intake_31 rfl rfl hs1 ?_
  obtain ⟨hs2, h⟩ := h
  refine pw_callV (vs := [.int (gI σ 131 x0)]) (st := []) (b := b1) (cn := 3) dc_Intake_textBeforeEnd_8 cq_Text_shortenTo (List.mem_of_getElem? (i := 542) (by decide +kernel)) (List.mem_of_getElem? (i := 543) (by decide +kernel)) (List.mem_of_getElem? (i := 541) (by decide +kernel)) rfl hs2 rfl rfl (by decide) (cat_cons rfl (cat_nil)) (Nat.le_of_ble_eq_true rfl) (PW.mono (kV_kN (fun σ1 h => ?_)) h)
  refine pw_aload_n dc_Intake_textBeforeEnd_11 rfl rfl ?_
  obtain ⟨hs3, h⟩ := h
  refine pw_getR (c := 2) (k := 0) (f := 128) dc_Intake_textBeforeEnd_12 fl_Intake_14 rfl rfl hs3 ?_
  exact pw_aret (v := gR σ1 128 x0) dc_Intake_textBeforeEnd_15 rfl h
theorem dc_Intake_isLong_0 : decode M_Intake_isLong.2.1 0 = .ok (.aload_n 0, 1) := by decide +kernel
theorem dc_Intake_isLong_1 : decode M_Intake_isLong.2.1 1 = .ok (.getfield 31, 3) := by decide +kernel
theorem dc_Intake_isLong_4 : decode M_Intake_isLong.2.1 4 = .ok (.bipush 60, 2) := by decide +kernel
theorem dc_Intake_isLong_6 : decode M_Intake_isLong.2.1 6 = .ok (.if_icmp .le 7, 3) := by decide +kernel
theorem dc_Intake_isLong_9 : decode M_Intake_isLong.2.1 9 = .ok (.iconst 1, 1) := by decide +kernel
theorem dc_Intake_isLong_10 : decode M_Intake_isLong.2.1 10 = .ok (.goto 4, 3) := by decide +kernel
theorem dc_Intake_isLong_13 : decode M_Intake_isLong.2.1 13 = .ok (.iconst 0, 1) := by decide +kernel
theorem dc_Intake_isLong_14 : decode M_Intake_isLong.2.1 14 = .ok (.ireturn, 1) := by decide +kernel
set_option maxRecDepth 20000 in
theorem e_Intake_isLong_0 {d : Nat} {σ : PH} {K : PO → PH → Prop} (x0 : Nat) (h : sh σ x0 = (1, 2) ∧ (if (gI σ 131 x0) ≤ 60 then K (.inl (some (.int 0))) σ else K (.inl (some (.int 1))) σ)) : PW d M_Intake_isLong 0 [.ref x0] [] σ K := by
  refine pw_aload_n dc_Intake_isLong_0 rfl rfl ?_
  obtain ⟨hs1, h⟩ := h
  refine pw_getI (c := 2) (k := 3) (f := 131) dc_Intake_isLong_1 fl_Intake_31 rfl rfl hs1 ?_
  refine pw_bipush (v := 60) dc_Intake_isLong_4 (by decide) ?_
  refine pw_icmp_le (tgt := 13) dc_Intake_isLong_6 (by decide) (fun hc => ?_) (fun hc => ?_)
  · have h := ite_t h hc
    refine pw_iconst (v := 0) dc_Intake_isLong_13 (by decide) ?_
    exact pw_iret dc_Intake_isLong_14 rfl (bo_nar (Or.inl rfl)) h
  · have h := ite_f h hc
    refine pw_iconst (v := 1) dc_Intake_isLong_9 (by decide) ?_
    refine pw_goto (tgt := 14) dc_Intake_isLong_10 (by decide) ?_
    exact pw_iret dc_Intake_isLong_14 rfl (bo_nar (Or.inr rfl)) h
theorem dc_Routes_init_0 : decode M_Routes_init.2.1 0 = .ok (.aload_n 0, 1) := by decide +kernel
theorem dc_Routes_init_1 : decode M_Routes_init.2.1 1 = .ok (.invokespecial 3, 3) := by decide +kernel
theorem dc_Routes_init_4 : decode M_Routes_init.2.1 4 = .ok (.aload_n 0, 1) := by decide +kernel
theorem dc_Routes_init_5 : decode M_Routes_init.2.1 5 = .ok (.bipush 12, 2) := by decide +kernel
theorem dc_Routes_init_7 : decode M_Routes_init.2.1 7 = .ok (.anewarray 9, 3) := by decide +kernel
theorem dc_Routes_init_10 : decode M_Routes_init.2.1 10 = .ok (.putfield 11, 3) := by decide +kernel
theorem dc_Routes_init_13 : decode M_Routes_init.2.1 13 = .ok (.iconst 0, 1) := by decide +kernel
theorem dc_Routes_init_14 : decode M_Routes_init.2.1 14 = .ok (.istore_n 1, 1) := by decide +kernel
theorem dc_Routes_init_15 : decode M_Routes_init.2.1 15 = .ok (.iload_n 1, 1) := by decide +kernel
theorem dc_Routes_init_16 : decode M_Routes_init.2.1 16 = .ok (.bipush 12, 2) := by decide +kernel
theorem dc_Routes_init_18 : decode M_Routes_init.2.1 18 = .ok (.if_icmp .ge 22, 3) := by decide +kernel
theorem dc_Routes_init_21 : decode M_Routes_init.2.1 21 = .ok (.aload_n 0, 1) := by decide +kernel
theorem dc_Routes_init_22 : decode M_Routes_init.2.1 22 = .ok (.getfield 11, 3) := by decide +kernel
theorem dc_Routes_init_25 : decode M_Routes_init.2.1 25 = .ok (.iload_n 1, 1) := by decide +kernel
theorem dc_Routes_init_26 : decode M_Routes_init.2.1 26 = .ok (.new 9, 3) := by decide +kernel
theorem dc_Routes_init_29 : decode M_Routes_init.2.1 29 = .ok (.dup, 1) := by decide +kernel
theorem dc_Routes_init_30 : decode M_Routes_init.2.1 30 = .ok (.invokespecial 17, 3) := by decide +kernel
theorem dc_Routes_init_33 : decode M_Routes_init.2.1 33 = .ok (.aastore, 1) := by decide +kernel
theorem dc_Routes_init_34 : decode M_Routes_init.2.1 34 = .ok (.iinc 1 1, 3) := by decide +kernel
theorem dc_Routes_init_37 : decode M_Routes_init.2.1 37 = .ok (.goto (-22), 3) := by decide +kernel
theorem dc_Routes_init_40 : decode M_Routes_init.2.1 40 = .ok (.return_, 1) := by decide +kernel
set_option maxRecDepth 20000 in
theorem e_Routes_init_0 {d : Nat} {σ : PH} {K : PO → PH → Prop} (x0 : Nat) (h : cc σ + 1 ≤ 601024 ∧ cs σ + 12 ≤ 7293034 ∧ (∀ σ1 : PH, σ1 = mk σ (9, 12) 12 → sh σ1 x0 = (1, 9) ∧ (∀ σ2 : PH, σ2 = pR σ1 576 x0 (some (nx σ)) → PW (d + 1) M_Routes_init 15 [.ref x0, .int 0] [] σ2 K))) : PW (d + 1) M_Routes_init 0 [.ref x0, uu] [] σ K := by
  refine pw_aload_n dc_Routes_init_0 rfl rfl ?_
  refine pw_objInit dc_Routes_init_1 (List.mem_of_getElem? (i := 104) (by decide +kernel)) (List.mem_of_getElem? (i := 91) (by decide +kernel)) (List.mem_of_getElem? (i := 92) (by decide +kernel)) (Nat.le_of_ble_eq_true rfl) ?_
  refine pw_aload_n dc_Routes_init_4 rfl rfl ?_
  refine pw_bipush (v := 12) dc_Routes_init_5 (by decide) ?_
  refine PW.top (v' := .int (nI 12)) rfl ?_
  obtain ⟨hr1, hr2, h⟩ := h
  have h := h _ rfl
  refine pw_anew (k := 9) (N := 12) dc_Routes_init_7 (by unfold rk; decide) (List.mem_of_getElem? (i := 105) (by decide +kernel)) (List.mem_of_getElem? (i := 106) (by decide +kernel)) (by decide) hr1 hr2 ?_
  obtain ⟨hs1, h⟩ := h
  have h := h _ rfl
  refine pw_putR (c := 9) (k := 0) (f := 576) (v := some (nx σ)) dc_Routes_init_10 fl_Routes_11 (Or.inr ⟨rfl, rfl, rfl, List.mem_of_getElem? (i := 132) (by decide +kernel)⟩) rfl rfl hs1 ?_
  refine pw_iconst (v := 0) dc_Routes_init_13 (by decide) ?_
  refine pw_istore_n dc_Routes_init_14 (by decide) ?_
  exact h
set_option maxRecDepth 20000 in
theorem e_Routes_init_15 {d : Nat} {σ : PH} {K : PO → PH → Prop} (x0 : Nat) (x1 : Int32) (h : (if 12 ≤ x1 then K (.inl none) σ else sh σ x0 = (1, 9) ∧ (∃ b1 : Nat, gR σ 576 x0 = some b1 ∧ cc σ + 1 ≤ 601024 ∧ cs σ + 5 ≤ 7293034 ∧ (∀ σ1 : PH, σ1 = mk σ (1, 8) 5 → PW d M_Route_init 0 [.ref (nx σ)] [] σ1 (kV (fun σ2 => (∃ n1 : Nat, sh σ2 b1 = (9, n1) ∧ vp_in x1 n1 ∧ (∀ b : Nat, some (nx σ) = some b → sh σ2 b = (1, 8)) ∧ (∀ σ3 : PH, σ3 = uR σ2 b1 (ix x1) (some (nx σ)) → PW (d + 1) M_Routes_init 15 [.ref x0, .int (x1 + 1)] [] σ3 K))) K))))) : PW (d + 1) M_Routes_init 15 [.ref x0, .int x1] [] σ K := by
  refine pw_iload_n dc_Routes_init_15 rfl ?_
  refine pw_bipush (v := 12) dc_Routes_init_16 (by decide) ?_
  refine pw_icmp_ge (tgt := 40) dc_Routes_init_18 (by decide) (fun hc => ?_) (fun hc => ?_)
  · have h := ite_t h hc
    exact pw_vret dc_Routes_init_40 rfl h
  · have h := ite_f h hc
    refine pw_aload_n dc_Routes_init_21 rfl rfl ?_
    obtain ⟨hs1, h⟩ := h
    refine pw_getR (c := 9) (k := 0) (f := 576) dc_Routes_init_22 fl_Routes_11 rfl rfl hs1 ?_
    obtain ⟨b1, hb1, h⟩ := h
    refine PW.top (v' := .ref b1) (congrArg va_rf hb1) ?_
    refine pw_iload_n dc_Routes_init_25 rfl ?_
    obtain ⟨hr1, hr2, h⟩ := h
    have h := h _ rfl
    refine pw_new (c := 8) dc_Routes_init_26 (by decide) (List.mem_of_getElem? (i := 105) (by decide +kernel)) rfl hr1 hr2 ?_
    refine pw_dup dc_Routes_init_29 rfl ?_
    refine pw_callI (vs := []) (st := [.ref (nx σ), .int x1, .ref b1]) (b := (nx σ)) dc_Routes_init_30 cq_Route_init rfl rfl (List.mem_of_getElem? (i := 110) (by decide +kernel)) (List.mem_of_getElem? (i := 109) (by decide +kernel)) (Or.inr ⟨"RelayDesk", List.mem_of_getElem? (i := 108) (by decide +kernel)⟩) rfl rfl (by decide) (cat_nil) (Nat.le_of_ble_eq_true rfl) (PW.mono (kV_kN (fun σ2 h => ?_)) h)
    obtain ⟨n1, hs2, h⟩ := h
    obtain ⟨hi1, h⟩ := h
    obtain ⟨hv1, h⟩ := h
    have h := h _ rfl
    refine pw_aast (k := 9) (v := some (nx σ)) dc_Routes_init_33 (by unfold rk; decide) hs2 hi1 hv1 ?_
    refine pw_iincv (v := 1) dc_Routes_init_34 (by decide) rfl (by decide) ?_
    refine pw_goto (tgt := 15) dc_Routes_init_37 (by decide) ?_
    exact h
theorem dc_Routes_has_0 : decode M_Routes_has.2.1 0 = .ok (.iload_n 0, 1) := by decide +kernel
theorem dc_Routes_has_1 : decode M_Routes_has.2.1 1 = .ok (.iload_n 1, 1) := by decide +kernel
theorem dc_Routes_has_2 : decode M_Routes_has.2.1 2 = .ok (.ishr, 1) := by decide +kernel
theorem dc_Routes_has_3 : decode M_Routes_has.2.1 3 = .ok (.iconst 1, 1) := by decide +kernel
theorem dc_Routes_has_4 : decode M_Routes_has.2.1 4 = .ok (.iand, 1) := by decide +kernel
theorem dc_Routes_has_5 : decode M_Routes_has.2.1 5 = .ok (.ifCond .eq 7, 3) := by decide +kernel
theorem dc_Routes_has_8 : decode M_Routes_has.2.1 8 = .ok (.iconst 1, 1) := by decide +kernel
theorem dc_Routes_has_9 : decode M_Routes_has.2.1 9 = .ok (.goto 4, 3) := by decide +kernel
theorem dc_Routes_has_12 : decode M_Routes_has.2.1 12 = .ok (.iconst 0, 1) := by decide +kernel
theorem dc_Routes_has_13 : decode M_Routes_has.2.1 13 = .ok (.ireturn, 1) := by decide +kernel
set_option maxRecDepth 20000 in
theorem e_Routes_has_0 {d : Nat} {σ : PH} {K : PO → PH → Prop} (x0 : Int32) (x1 : Int32) (h : (if ((x0 >>> (x1 &&& 31)) &&& 1) = 0 then K (.inl (some (.int 0))) σ else K (.inl (some (.int 1))) σ)) : PW d M_Routes_has 0 [.int x0, .int x1] [] σ K := by
  refine pw_iload_n dc_Routes_has_0 rfl ?_
  refine pw_iload_n dc_Routes_has_1 rfl ?_
  refine pw_ishr dc_Routes_has_2 ?_
  refine pw_iconst (v := 1) dc_Routes_has_3 (by decide) ?_
  refine pw_iand dc_Routes_has_4 ?_
  refine pw_if_eq (tgt := 12) dc_Routes_has_5 (by decide) (fun hc => ?_) (fun hc => ?_)
  · have h := ite_t h hc
    refine pw_iconst (v := 0) dc_Routes_has_12 (by decide) ?_
    exact pw_iret dc_Routes_has_13 rfl (bo_nar (Or.inl rfl)) h
  · have h := ite_f h hc
    refine pw_iconst (v := 1) dc_Routes_has_8 (by decide) ?_
    refine pw_goto (tgt := 13) dc_Routes_has_9 (by decide) ?_
    exact pw_iret dc_Routes_has_13 rfl (bo_nar (Or.inr rfl)) h
theorem dc_Routes_leadNowhere_0 : decode M_Routes_leadNowhere.2.1 0 = .ok (.iload_n 0, 1) := by decide +kernel
theorem dc_Routes_leadNowhere_1 : decode M_Routes_leadNowhere.2.1 1 = .ok (.sipush 4096, 3) := by decide +kernel
theorem dc_Routes_leadNowhere_4 : decode M_Routes_leadNowhere.2.1 4 = .ok (.iand, 1) := by decide +kernel
theorem dc_Routes_leadNowhere_5 : decode M_Routes_leadNowhere.2.1 5 = .ok (.ifCond .eq 7, 3) := by decide +kernel
theorem dc_Routes_leadNowhere_8 : decode M_Routes_leadNowhere.2.1 8 = .ok (.iconst 1, 1) := by decide +kernel
theorem dc_Routes_leadNowhere_9 : decode M_Routes_leadNowhere.2.1 9 = .ok (.goto 4, 3) := by decide +kernel
theorem dc_Routes_leadNowhere_12 : decode M_Routes_leadNowhere.2.1 12 = .ok (.iconst 0, 1) := by decide +kernel
theorem dc_Routes_leadNowhere_13 : decode M_Routes_leadNowhere.2.1 13 = .ok (.ireturn, 1) := by decide +kernel
set_option maxRecDepth 20000 in
theorem e_Routes_leadNowhere_0 {d : Nat} {σ : PH} {K : PO → PH → Prop} (x0 : Int32) (h : (if (x0 &&& 4096) = 0 then K (.inl (some (.int 0))) σ else K (.inl (some (.int 1))) σ)) : PW d M_Routes_leadNowhere 0 [.int x0] [] σ K := by
  refine pw_iload_n dc_Routes_leadNowhere_0 rfl ?_
  refine pw_sipush (v := 4096) dc_Routes_leadNowhere_1 (by decide) ?_
  refine pw_iand dc_Routes_leadNowhere_4 ?_
  refine pw_if_eq (tgt := 12) dc_Routes_leadNowhere_5 (by decide) (fun hc => ?_) (fun hc => ?_)
  · have h := ite_t h hc
    refine pw_iconst (v := 0) dc_Routes_leadNowhere_12 (by decide) ?_
    exact pw_iret dc_Routes_leadNowhere_13 rfl (bo_nar (Or.inl rfl)) h
  · have h := ite_f h hc
    refine pw_iconst (v := 1) dc_Routes_leadNowhere_8 (by decide) ?_
    refine pw_goto (tgt := 13) dc_Routes_leadNowhere_9 (by decide) ?_
    exact pw_iret dc_Routes_leadNowhere_13 rfl (bo_nar (Or.inr rfl)) h
theorem dc_Routes_isFull_0 : decode M_Routes_isFull.2.1 0 = .ok (.aload_n 0, 1) := by decide +kernel
theorem dc_Routes_isFull_1 : decode M_Routes_isFull.2.1 1 = .ok (.getfield 18, 3) := by decide +kernel
theorem dc_Routes_isFull_4 : decode M_Routes_isFull.2.1 4 = .ok (.bipush 12, 2) := by decide +kernel
theorem dc_Routes_isFull_6 : decode M_Routes_isFull.2.1 6 = .ok (.if_icmp .lt 7, 3) := by decide +kernel
theorem dc_Routes_isFull_9 : decode M_Routes_isFull.2.1 9 = .ok (.iconst 1, 1) := by decide +kernel
theorem dc_Routes_isFull_10 : decode M_Routes_isFull.2.1 10 = .ok (.goto 4, 3) := by decide +kernel
theorem dc_Routes_isFull_13 : decode M_Routes_isFull.2.1 13 = .ok (.iconst 0, 1) := by decide +kernel
theorem dc_Routes_isFull_14 : decode M_Routes_isFull.2.1 14 = .ok (.ireturn, 1) := by decide +kernel
set_option maxRecDepth 20000 in
theorem e_Routes_isFull_0 {d : Nat} {σ : PH} {K : PO → PH → Prop} (x0 : Nat) (h : sh σ x0 = (1, 9) ∧ (if (gI σ 577 x0) < 12 then K (.inl (some (.int 0))) σ else K (.inl (some (.int 1))) σ)) : PW d M_Routes_isFull 0 [.ref x0] [] σ K := by
  refine pw_aload_n dc_Routes_isFull_0 rfl rfl ?_
  obtain ⟨hs1, h⟩ := h
  refine pw_getI (c := 9) (k := 1) (f := 577) dc_Routes_isFull_1 fl_Routes_18 rfl rfl hs1 ?_
  refine pw_bipush (v := 12) dc_Routes_isFull_4 (by decide) ?_
  refine pw_icmp_lt (tgt := 13) dc_Routes_isFull_6 (by decide) (fun hc => ?_) (fun hc => ?_)
  · have h := ite_t h hc
    refine pw_iconst (v := 0) dc_Routes_isFull_13 (by decide) ?_
    exact pw_iret dc_Routes_isFull_14 rfl (bo_nar (Or.inl rfl)) h
  · have h := ite_f h hc
    refine pw_iconst (v := 1) dc_Routes_isFull_9 (by decide) ?_
    refine pw_goto (tgt := 14) dc_Routes_isFull_10 (by decide) ?_
    exact pw_iret dc_Routes_isFull_14 rfl (bo_nar (Or.inr rfl)) h
theorem dc_Routes_rowOf_0 : decode M_Routes_rowOf.2.1 0 = .ok (.iconst 0, 1) := by decide +kernel
theorem dc_Routes_rowOf_1 : decode M_Routes_rowOf.2.1 1 = .ok (.istore_n 2, 1) := by decide +kernel
theorem dc_Routes_rowOf_2 : decode M_Routes_rowOf.2.1 2 = .ok (.iload_n 2, 1) := by decide +kernel
theorem dc_Routes_rowOf_3 : decode M_Routes_rowOf.2.1 3 = .ok (.aload_n 0, 1) := by decide +kernel
theorem dc_Routes_rowOf_4 : decode M_Routes_rowOf.2.1 4 = .ok (.getfield 18, 3) := by decide +kernel
theorem dc_Routes_rowOf_7 : decode M_Routes_rowOf.2.1 7 = .ok (.if_icmp .ge 24, 3) := by decide +kernel
theorem dc_Routes_rowOf_10 : decode M_Routes_rowOf.2.1 10 = .ok (.aload_n 0, 1) := by decide +kernel
theorem dc_Routes_rowOf_11 : decode M_Routes_rowOf.2.1 11 = .ok (.getfield 11, 3) := by decide +kernel
theorem dc_Routes_rowOf_14 : decode M_Routes_rowOf.2.1 14 = .ok (.iload_n 2, 1) := by decide +kernel
theorem dc_Routes_rowOf_15 : decode M_Routes_rowOf.2.1 15 = .ok (.aaload, 1) := by decide +kernel
theorem dc_Routes_rowOf_16 : decode M_Routes_rowOf.2.1 16 = .ok (.getfield 22, 3) := by decide +kernel
theorem dc_Routes_rowOf_19 : decode M_Routes_rowOf.2.1 19 = .ok (.iload_n 1, 1) := by decide +kernel
theorem dc_Routes_rowOf_20 : decode M_Routes_rowOf.2.1 20 = .ok (.if_icmp .ne 5, 3) := by decide +kernel
theorem dc_Routes_rowOf_23 : decode M_Routes_rowOf.2.1 23 = .ok (.iload_n 2, 1) := by decide +kernel
theorem dc_Routes_rowOf_24 : decode M_Routes_rowOf.2.1 24 = .ok (.ireturn, 1) := by decide +kernel
theorem dc_Routes_rowOf_25 : decode M_Routes_rowOf.2.1 25 = .ok (.iinc 2 1, 3) := by decide +kernel
theorem dc_Routes_rowOf_28 : decode M_Routes_rowOf.2.1 28 = .ok (.goto (-26), 3) := by decide +kernel
theorem dc_Routes_rowOf_31 : decode M_Routes_rowOf.2.1 31 = .ok (.iconst (-1), 1) := by decide +kernel
theorem dc_Routes_rowOf_32 : decode M_Routes_rowOf.2.1 32 = .ok (.ireturn, 1) := by decide +kernel
set_option maxRecDepth 20000 in
theorem e_Routes_rowOf_0 {d : Nat} {σ : PH} {K : PO → PH → Prop} (x0 : Nat) (x1 : Int32) (h : PW d M_Routes_rowOf 2 [.ref x0, .int x1, .int 0] [] σ K) : PW d M_Routes_rowOf 0 [.ref x0, .int x1, uu] [] σ K := by
  refine pw_iconst (v := 0) dc_Routes_rowOf_0 (by decide) ?_
  refine pw_istore_n dc_Routes_rowOf_1 (by decide) ?_
  exact h
set_option maxRecDepth 20000 in
theorem e_Routes_rowOf_2 {d : Nat} {σ : PH} {K : PO → PH → Prop} (x0 : Nat) (x1 : Int32) (x2 : Int32) (h : sh σ x0 = (1, 9) ∧ (if (gI σ 577 x0) ≤ x2 then K (.inl (some (.int ((-1))))) σ else (∃ b1 : Nat, gR σ 576 x0 = some b1 ∧ (∃ n1 : Nat, sh σ b1 = (9, n1) ∧ vp_in x2 n1 ∧ (∃ b2 : Nat, eR σ b1 (ix x2) = some b2 ∧ sh σ b2 = (1, 8) ∧ (if (gI σ 512 b2) = x1 then K (.inl (some (.int x2))) σ else PW d M_Routes_rowOf 2 [.ref x0, .int x1, .int (x2 + 1)] [] σ K)))))) : PW d M_Routes_rowOf 2 [.ref x0, .int x1, .int x2] [] σ K := by
  refine pw_iload_n dc_Routes_rowOf_2 rfl ?_
  refine pw_aload_n dc_Routes_rowOf_3 rfl rfl ?_
  obtain ⟨hs1, h⟩ := h
  refine pw_getI (c := 9) (k := 1) (f := 577) dc_Routes_rowOf_4 fl_Routes_18 rfl rfl hs1 ?_
  refine pw_icmp_ge (tgt := 31) dc_Routes_rowOf_7 (by decide) (fun hc => ?_) (fun hc => ?_)
  · have h := ite_t h hc
    refine pw_iconst (v := (-1)) dc_Routes_rowOf_31 (by decide) ?_
    exact pw_iret dc_Routes_rowOf_32 rfl rfl h
  · have h := ite_f h hc
    refine pw_aload_n dc_Routes_rowOf_10 rfl rfl ?_
    refine pw_getR (c := 9) (k := 0) (f := 576) dc_Routes_rowOf_11 fl_Routes_11 rfl rfl hs1 ?_
    obtain ⟨b1, hb1, h⟩ := h
    refine PW.top (v' := .ref b1) (congrArg va_rf hb1) ?_
    refine pw_iload_n dc_Routes_rowOf_14 rfl ?_
    obtain ⟨n1, hs2, h⟩ := h
    obtain ⟨hi1, h⟩ := h
    refine pw_aald (k := 9) dc_Routes_rowOf_15 (by unfold rk; decide) hs2 hi1 ?_
    obtain ⟨b2, hb2, h⟩ := h
    refine PW.top (v' := .ref b2) (congrArg va_rf hb2) ?_
    obtain ⟨hs3, h⟩ := h
    refine pw_getI (c := 8) (k := 0) (f := 512) dc_Routes_rowOf_16 fl_Routes_22 rfl rfl hs3 ?_
    refine pw_iload_n dc_Routes_rowOf_19 rfl ?_
    refine pw_icmp_ne (tgt := 25) dc_Routes_rowOf_20 (by decide) (fun hc => ?_) (fun hc => ?_)
    · have h := ite_f h hc
      refine pw_iincv (v := 1) dc_Routes_rowOf_25 (by decide) rfl (by decide) ?_
      refine pw_goto (tgt := 2) dc_Routes_rowOf_28 (by decide) ?_
      exact h
    · have h := ite_t h hc
      refine pw_iload_n dc_Routes_rowOf_23 rfl ?_
      exact pw_iret dc_Routes_rowOf_24 rfl rfl h
theorem dc_Routes_newRow_0 : decode M_Routes_newRow.2.1 0 = .ok (.aload_n 0, 1) := by decide +kernel
theorem dc_Routes_newRow_1 : decode M_Routes_newRow.2.1 1 = .ok (.getfield 18, 3) := by decide +kernel
theorem dc_Routes_newRow_4 : decode M_Routes_newRow.2.1 4 = .ok (.bipush 11, 2) := by decide +kernel
theorem dc_Routes_newRow_6 : decode M_Routes_newRow.2.1 6 = .ok (.invokestatic 25, 3) := by decide +kernel
theorem dc_Routes_newRow_9 : decode M_Routes_newRow.2.1 9 = .ok (.istore_n 2, 1) := by decide +kernel
theorem dc_Routes_newRow_10 : decode M_Routes_newRow.2.1 10 = .ok (.aload_n 0, 1) := by decide +kernel
theorem dc_Routes_newRow_11 : decode M_Routes_newRow.2.1 11 = .ok (.getfield 11, 3) := by decide +kernel
theorem dc_Routes_newRow_14 : decode M_Routes_newRow.2.1 14 = .ok (.iload_n 2, 1) := by decide +kernel
theorem dc_Routes_newRow_15 : decode M_Routes_newRow.2.1 15 = .ok (.aaload, 1) := by decide +kernel
theorem dc_Routes_newRow_16 : decode M_Routes_newRow.2.1 16 = .ok (.iload_n 1, 1) := by decide +kernel
theorem dc_Routes_newRow_17 : decode M_Routes_newRow.2.1 17 = .ok (.putfield 22, 3) := by decide +kernel
theorem dc_Routes_newRow_20 : decode M_Routes_newRow.2.1 20 = .ok (.aload_n 0, 1) := by decide +kernel
theorem dc_Routes_newRow_21 : decode M_Routes_newRow.2.1 21 = .ok (.iload_n 2, 1) := by decide +kernel
theorem dc_Routes_newRow_22 : decode M_Routes_newRow.2.1 22 = .ok (.iconst 1, 1) := by decide +kernel
theorem dc_Routes_newRow_23 : decode M_Routes_newRow.2.1 23 = .ok (.iadd, 1) := by decide +kernel
theorem dc_Routes_newRow_24 : decode M_Routes_newRow.2.1 24 = .ok (.putfield 18, 3) := by decide +kernel
theorem dc_Routes_newRow_27 : decode M_Routes_newRow.2.1 27 = .ok (.iload_n 2, 1) := by decide +kernel
theorem dc_Routes_newRow_28 : decode M_Routes_newRow.2.1 28 = .ok (.ireturn, 1) := by decide +kernel
set_option maxRecDepth 20000 in
theorem e_Routes_newRow_0 {d : Nat} {σ : PH} {K : PO → PH → Prop} (x0 : Nat) (x1 : Int32) (h : sh σ x0 = (1, 9) ∧ (∃ b1 : Nat, gR σ 576 x0 = some b1 ∧ (∃ n1 : Nat, sh σ b1 = (9, n1) ∧ vp_in (if 11 < (gI σ 577 x0) then 11 else gI σ 577 x0) n1 ∧ (∃ b2 : Nat, eR σ b1 (ix (if 11 < (gI σ 577 x0) then 11 else gI σ 577 x0)) = some b2 ∧ sh σ b2 = (1, 8) ∧ (∀ σ1 : PH, σ1 = pI σ 512 b2 x1 → sh σ1 x0 = (1, 9) ∧ (∀ σ2 : PH, σ2 = pI σ1 577 x0 ((if 11 < (gI σ 577 x0) then 11 else gI σ 577 x0) + 1) → K (.inl (some (.int (if 11 < (gI σ 577 x0) then 11 else gI σ 577 x0)))) σ2)))))) : PW (d + 1) M_Routes_newRow 0 [.ref x0, .int x1, uu] [] σ K := by
  refine pw_aload_n dc_Routes_newRow_0 rfl rfl ?_
  obtain ⟨hs1, h⟩ := h
  refine pw_getI (c := 9) (k := 1) (f := 577) dc_Routes_newRow_1 fl_Routes_18 rfl rfl hs1 ?_
  refine pw_bipush (v := 11) dc_Routes_newRow_4 (by decide) ?_
  refine pw_mmin dc_Routes_newRow_6 (List.mem_of_getElem? (i := 738) (by decide +kernel)) (Nat.le_of_ble_eq_true rfl) ?_
  refine pw_istore_n dc_Routes_newRow_9 (by decide) ?_
  refine pw_aload_n dc_Routes_newRow_10 rfl rfl ?_
  refine pw_getR (c := 9) (k := 0) (f := 576) dc_Routes_newRow_11 fl_Routes_11 rfl rfl hs1 ?_
  obtain ⟨b1, hb1, h⟩ := h
  refine PW.top (v' := .ref b1) (congrArg va_rf hb1) ?_
  refine pw_iload_n dc_Routes_newRow_14 rfl ?_
  obtain ⟨n1, hs2, h⟩ := h
  obtain ⟨hi1, h⟩ := h
  refine pw_aald (k := 9) dc_Routes_newRow_15 (by unfold rk; decide) hs2 hi1 ?_
  obtain ⟨b2, hb2, h⟩ := h
  refine PW.top (v' := .ref b2) (congrArg va_rf hb2) ?_
  refine pw_iload_n dc_Routes_newRow_16 rfl ?_
  obtain ⟨hs3, h⟩ := h
  have h := h _ rfl
  refine pw_putI (c := 8) (k := 0) (f := 512) dc_Routes_newRow_17 fl_Routes_22 (Or.inl rfl) rfl rfl hs3 ?_
  refine pw_aload_n dc_Routes_newRow_20 rfl rfl ?_
  refine pw_iload_n dc_Routes_newRow_21 rfl ?_
  refine pw_iconst (v := 1) dc_Routes_newRow_22 (by decide) ?_
  refine pw_iadd dc_Routes_newRow_23 ?_
  obtain ⟨hs4, h⟩ := h
  have h := h _ rfl
  refine pw_putI (c := 9) (k := 1) (f := 577) dc_Routes_newRow_24 fl_Routes_18 (Or.inl rfl) rfl rfl hs4 ?_
  refine pw_iload_n dc_Routes_newRow_27 rfl ?_
  exact pw_iret dc_Routes_newRow_28 rfl rfl h
theorem dc_Routes_rowsBehind_0 : decode M_Routes_rowsBehind.2.1 0 = .ok (.iconst 0, 1) := by decide +kernel
theorem dc_Routes_rowsBehind_1 : decode M_Routes_rowsBehind.2.1 1 = .ok (.istore_n 2, 1) := by decide +kernel
theorem dc_Routes_rowsBehind_2 : decode M_Routes_rowsBehind.2.1 2 = .ok (.iconst 0, 1) := by decide +kernel
theorem dc_Routes_rowsBehind_3 : decode M_Routes_rowsBehind.2.1 3 = .ok (.istore_n 3, 1) := by decide +kernel
theorem dc_Routes_rowsBehind_4 : decode M_Routes_rowsBehind.2.1 4 = .ok (.iload_n 3, 1) := by decide +kernel
theorem dc_Routes_rowsBehind_5 : decode M_Routes_rowsBehind.2.1 5 = .ok (.aload_n 1, 1) := by decide +kernel
theorem dc_Routes_rowsBehind_6 : decode M_Routes_rowsBehind.2.1 6 = .ok (.getfield 31, 3) := by decide +kernel
theorem dc_Routes_rowsBehind_9 : decode M_Routes_rowsBehind.2.1 9 = .ok (.if_icmp .ge 22, 3) := by decide +kernel
theorem dc_Routes_rowsBehind_12 : decode M_Routes_rowsBehind.2.1 12 = .ok (.iload_n 2, 1) := by decide +kernel
theorem dc_Routes_rowsBehind_13 : decode M_Routes_rowsBehind.2.1 13 = .ok (.aload_n 0, 1) := by decide +kernel
theorem dc_Routes_rowsBehind_14 : decode M_Routes_rowsBehind.2.1 14 = .ok (.aload_n 1, 1) := by decide +kernel
theorem dc_Routes_rowsBehind_15 : decode M_Routes_rowsBehind.2.1 15 = .ok (.getfield 36, 3) := by decide +kernel
theorem dc_Routes_rowsBehind_18 : decode M_Routes_rowsBehind.2.1 18 = .ok (.iload_n 3, 1) := by decide +kernel
theorem dc_Routes_rowsBehind_19 : decode M_Routes_rowsBehind.2.1 19 = .ok (.iaload, 1) := by decide +kernel
theorem dc_Routes_rowsBehind_20 : decode M_Routes_rowsBehind.2.1 20 = .ok (.invokevirtual 40, 3) := by decide +kernel
theorem dc_Routes_rowsBehind_23 : decode M_Routes_rowsBehind.2.1 23 = .ok (.ior, 1) := by decide +kernel
theorem dc_Routes_rowsBehind_24 : decode M_Routes_rowsBehind.2.1 24 = .ok (.istore_n 2, 1) := by decide +kernel
theorem dc_Routes_rowsBehind_25 : decode M_Routes_rowsBehind.2.1 25 = .ok (.iinc 3 1, 3) := by decide +kernel
theorem dc_Routes_rowsBehind_28 : decode M_Routes_rowsBehind.2.1 28 = .ok (.goto (-24), 3) := by decide +kernel
theorem dc_Routes_rowsBehind_31 : decode M_Routes_rowsBehind.2.1 31 = .ok (.aload_n 0, 1) := by decide +kernel
theorem dc_Routes_rowsBehind_32 : decode M_Routes_rowsBehind.2.1 32 = .ok (.iload_n 2, 1) := by decide +kernel
theorem dc_Routes_rowsBehind_33 : decode M_Routes_rowsBehind.2.1 33 = .ok (.invokevirtual 44, 3) := by decide +kernel
theorem dc_Routes_rowsBehind_36 : decode M_Routes_rowsBehind.2.1 36 = .ok (.ireturn, 1) := by decide +kernel
set_option maxRecDepth 20000 in
theorem e_Routes_rowsBehind_0 {d : Nat} {σ : PH} {K : PO → PH → Prop} (x0 : Nat) (x1 : Nat) (h : PW (d + 1) M_Routes_rowsBehind 4 [.ref x0, .ref x1, .int 0, .int 0] [] σ K) : PW (d + 1) M_Routes_rowsBehind 0 [.ref x0, .ref x1, uu, uu] [] σ K := by
  refine pw_iconst (v := 0) dc_Routes_rowsBehind_0 (by decide) ?_
  refine pw_istore_n dc_Routes_rowsBehind_1 (by decide) ?_
  refine pw_iconst (v := 0) dc_Routes_rowsBehind_2 (by decide) ?_
  refine pw_istore_n dc_Routes_rowsBehind_3 (by decide) ?_
  exact h
set_option maxRecDepth 20000 in
theorem e_Routes_rowsBehind_4 {d : Nat} {σ : PH} {K : PO → PH → Prop} (x0 : Nat) (x1 : Nat) (x2 : Int32) (x3 : Int32) (h : sh σ x1 = (1, 10) ∧ (if (gI σ 643 x1) ≤ x3 then sh σ x0 = (1, 9) ∧ PW d M_Routes_withMembers 0 [.ref x0, .int x2, uu, uu] [] σ (kI (fun r1 σ1 => K (.inl (some (.int r1))) σ1) K) else (∃ b1 : Nat, gR σ 642 x1 = some b1 ∧ (∃ n1 : Nat, sh σ b1 = (2, n1) ∧ vp_in x3 n1 ∧ sh σ x0 = (1, 9) ∧ PW d M_Routes_bitOf 0 [.ref x0, .int (eI σ b1 (ix x3)), uu] [] σ (kI (fun r2 σ2 => PW (d + 1) M_Routes_rowsBehind 4 [.ref x0, .ref x1, .int (x2 ||| r2), .int (x3 + 1)] [] σ2 K) K))))) : PW (d + 1) M_Routes_rowsBehind 4 [.ref x0, .ref x1, .int x2, .int x3] [] σ K := by
  refine pw_iload_n dc_Routes_rowsBehind_4 rfl ?_
  refine pw_aload_n dc_Routes_rowsBehind_5 rfl rfl ?_
  obtain ⟨hs1, h⟩ := h
  refine pw_getI (c := 10) (k := 3) (f := 643) dc_Routes_rowsBehind_6 fl_Routes_31 rfl rfl hs1 ?_
  refine pw_icmp_ge (tgt := 31) dc_Routes_rowsBehind_9 (by decide) (fun hc => ?_) (fun hc => ?_)
  · have h := ite_t h hc
    refine pw_aload_n dc_Routes_rowsBehind_31 rfl rfl ?_
    refine pw_iload_n dc_Routes_rowsBehind_32 rfl ?_
    obtain ⟨hs2, h⟩ := h
    refine pw_callV (vs := [.int x2]) (st := []) (b := x0) (cn := 9) dc_Routes_rowsBehind_33 cq_Routes_withMembers (List.mem_of_getElem? (i := 645) (by decide +kernel)) (List.mem_of_getElem? (i := 18) (by decide +kernel)) (List.mem_of_getElem? (i := 643) (by decide +kernel)) rfl hs2 rfl rfl (by decide) (cat_cons rfl (cat_nil)) (Nat.le_of_ble_eq_true rfl) (PW.mono (kI_kN (fun r1 σ1 h => ?_)) h)
    exact pw_iret dc_Routes_rowsBehind_36 rfl rfl h
  · have h := ite_f h hc
    refine pw_iload_n dc_Routes_rowsBehind_12 rfl ?_
    refine pw_aload_n dc_Routes_rowsBehind_13 rfl rfl ?_
    refine pw_aload_n dc_Routes_rowsBehind_14 rfl rfl ?_
    refine pw_getR (c := 10) (k := 2) (f := 642) dc_Routes_rowsBehind_15 fl_Routes_36 rfl rfl hs1 ?_
    obtain ⟨b1, hb1, h⟩ := h
    refine PW.top (v' := .ref b1) (congrArg va_rf hb1) ?_
    refine pw_iload_n dc_Routes_rowsBehind_18 rfl ?_
    obtain ⟨n1, hs3, h⟩ := h
    obtain ⟨hi1, h⟩ := h
    refine pw_iald dc_Routes_rowsBehind_19 hs3 hi1 ?_
    obtain ⟨hs4, h⟩ := h
    refine pw_callV (vs := [.int (eI σ b1 (ix x3))]) (st := [.int x2]) (b := x0) (cn := 9) dc_Routes_rowsBehind_20 cq_Routes_bitOf (List.mem_of_getElem? (i := 637) (by decide +kernel)) (List.mem_of_getElem? (i := 17) (by decide +kernel)) (List.mem_of_getElem? (i := 635) (by decide +kernel)) rfl hs4 rfl rfl (by decide) (cat_cons rfl (cat_nil)) (Nat.le_of_ble_eq_true rfl) (PW.mono (kI_kN (fun r2 σ2 h => ?_)) h)
    refine pw_ior dc_Routes_rowsBehind_23 ?_
    refine pw_istore_n dc_Routes_rowsBehind_24 (by decide) ?_
    refine pw_iincv (v := 1) dc_Routes_rowsBehind_25 (by decide) rfl (by decide) ?_
    refine pw_goto (tgt := 4) dc_Routes_rowsBehind_28 (by decide) ?_
    exact h
theorem dc_Routes_leadsTo_0 : decode M_Routes_leadsTo.2.1 0 = .ok (.aload_n 0, 1) := by decide +kernel
theorem dc_Routes_leadsTo_1 : decode M_Routes_leadsTo.2.1 1 = .ok (.aload_n 0, 1) := by decide +kernel
theorem dc_Routes_leadsTo_2 : decode M_Routes_leadsTo.2.1 2 = .ok (.iload_n 1, 1) := by decide +kernel
theorem dc_Routes_leadsTo_3 : decode M_Routes_leadsTo.2.1 3 = .ok (.invokevirtual 40, 3) := by decide +kernel
theorem dc_Routes_leadsTo_6 : decode M_Routes_leadsTo.2.1 6 = .ok (.invokevirtual 44, 3) := by decide +kernel
theorem dc_Routes_leadsTo_9 : decode M_Routes_leadsTo.2.1 9 = .ok (.istore_n 3, 1) := by decide +kernel
theorem dc_Routes_leadsTo_10 : decode M_Routes_leadsTo.2.1 10 = .ok (.iconst 0, 1) := by decide +kernel
theorem dc_Routes_leadsTo_11 : decode M_Routes_leadsTo.2.1 11 = .ok (.istore 4, 2) := by decide +kernel
theorem dc_Routes_leadsTo_13 : decode M_Routes_leadsTo.2.1 13 = .ok (.iload 4, 2) := by decide +kernel
theorem dc_Routes_leadsTo_15 : decode M_Routes_leadsTo.2.1 15 = .ok (.aload_n 0, 1) := by decide +kernel
theorem dc_Routes_leadsTo_16 : decode M_Routes_leadsTo.2.1 16 = .ok (.getfield 18, 3) := by decide +kernel
theorem dc_Routes_leadsTo_19 : decode M_Routes_leadsTo.2.1 19 = .ok (.if_icmp .ge 34, 3) := by decide +kernel
theorem dc_Routes_leadsTo_22 : decode M_Routes_leadsTo.2.1 22 = .ok (.iload_n 3, 1) := by decide +kernel
theorem dc_Routes_leadsTo_23 : decode M_Routes_leadsTo.2.1 23 = .ok (.iload 4, 2) := by decide +kernel
theorem dc_Routes_leadsTo_25 : decode M_Routes_leadsTo.2.1 25 = .ok (.invokestatic 47, 3) := by decide +kernel
theorem dc_Routes_leadsTo_28 : decode M_Routes_leadsTo.2.1 28 = .ok (.ifCond .eq 19, 3) := by decide +kernel
theorem dc_Routes_leadsTo_31 : decode M_Routes_leadsTo.2.1 31 = .ok (.aload_n 0, 1) := by decide +kernel
theorem dc_Routes_leadsTo_32 : decode M_Routes_leadsTo.2.1 32 = .ok (.getfield 11, 3) := by decide +kernel
theorem dc_Routes_leadsTo_35 : decode M_Routes_leadsTo.2.1 35 = .ok (.iload 4, 2) := by decide +kernel
theorem dc_Routes_leadsTo_37 : decode M_Routes_leadsTo.2.1 37 = .ok (.aaload, 1) := by decide +kernel
theorem dc_Routes_leadsTo_38 : decode M_Routes_leadsTo.2.1 38 = .ok (.iload_n 2, 1) := by decide +kernel
theorem dc_Routes_leadsTo_39 : decode M_Routes_leadsTo.2.1 39 = .ok (.invokevirtual 51, 3) := by decide +kernel
theorem dc_Routes_leadsTo_42 : decode M_Routes_leadsTo.2.1 42 = .ok (.ifCond .eq 5, 3) := by decide +kernel
theorem dc_Routes_leadsTo_45 : decode M_Routes_leadsTo.2.1 45 = .ok (.iconst 1, 1) := by decide +kernel
theorem dc_Routes_leadsTo_46 : decode M_Routes_leadsTo.2.1 46 = .ok (.ireturn, 1) := by decide +kernel
theorem dc_Routes_leadsTo_47 : decode M_Routes_leadsTo.2.1 47 = .ok (.iinc 4 1, 3) := by decide +kernel
theorem dc_Routes_leadsTo_50 : decode M_Routes_leadsTo.2.1 50 = .ok (.goto (-37), 3) := by decide +kernel
theorem dc_Routes_leadsTo_53 : decode M_Routes_leadsTo.2.1 53 = .ok (.iconst 0, 1) := by decide +kernel
theorem dc_Routes_leadsTo_54 : decode M_Routes_leadsTo.2.1 54 = .ok (.ireturn, 1) := by decide +kernel
set_option maxRecDepth 20000 in
theorem e_Routes_leadsTo_0 {d : Nat} {σ : PH} {K : PO → PH → Prop} (x0 : Nat) (x1 : Int32) (x2 : Int32) (h : sh σ x0 = (1, 9) ∧ PW d M_Routes_bitOf 0 [.ref x0, .int x1, uu] [] σ (kI (fun r1 σ1 => sh σ1 x0 = (1, 9) ∧ PW d M_Routes_withMembers 0 [.ref x0, .int r1, uu, uu] [] σ1 (kI (fun r2 σ2 => PW (d + 1) M_Routes_leadsTo 13 [.ref x0, uu, .int x2, .int r2, .int 0] [] σ2 K) K)) K)) : PW (d + 1) M_Routes_leadsTo 0 [.ref x0, .int x1, .int x2, uu, uu] [] σ K := by
  refine pw_aload_n dc_Routes_leadsTo_0 rfl rfl ?_
  refine pw_aload_n dc_Routes_leadsTo_1 rfl rfl ?_
  refine pw_iload_n dc_Routes_leadsTo_2 rfl ?_
  obtain ⟨hs1, h⟩ := h
  refine pw_callV (vs := [.int x1]) (st := [.ref x0]) (b := x0) (cn := 9) dc_Routes_leadsTo_3 cq_Routes_bitOf (List.mem_of_getElem? (i := 637) (by decide +kernel)) (List.mem_of_getElem? (i := 17) (by decide +kernel)) (List.mem_of_getElem? (i := 635) (by decide +kernel)) rfl hs1 rfl rfl (by decide) (cat_cons rfl (cat_nil)) (Nat.le_of_ble_eq_true rfl) (PW.mono (kI_kN (fun r1 σ1 h => ?_)) h)
  obtain ⟨hs2, h⟩ := h
  refine pw_callV (vs := [.int r1]) (st := []) (b := x0) (cn := 9) dc_Routes_leadsTo_6 cq_Routes_withMembers (List.mem_of_getElem? (i := 645) (by decide +kernel)) (List.mem_of_getElem? (i := 18) (by decide +kernel)) (List.mem_of_getElem? (i := 643) (by decide +kernel)) rfl hs2 rfl rfl (by decide) (cat_cons rfl (cat_nil)) (Nat.le_of_ble_eq_true rfl) (PW.mono (kI_kN (fun r2 σ2 h => ?_)) h)
  refine pw_istore_n dc_Routes_leadsTo_9 (by decide) ?_
  refine pw_iconst (v := 0) dc_Routes_leadsTo_10 (by decide) ?_
  refine pw_istore dc_Routes_leadsTo_11 (by decide) ?_
  refine PW.drop (ls' := [.ref x0, uu, .int x2, .int r2, .int 0]) ⟨Or.inl rfl, Or.inr rfl, Or.inl rfl, Or.inl rfl, Or.inl rfl, trivial⟩ ?_
  exact h
set_option maxRecDepth 20000 in
theorem e_Routes_leadsTo_13 {d : Nat} {σ : PH} {K : PO → PH → Prop} (x0 : Nat) (x2 : Int32) (x3 : Int32) (x4 : Int32) (h : sh σ x0 = (1, 9) ∧ (if (gI σ 577 x0) ≤ x4 then K (.inl (some (.int 0))) σ else PW d M_Routes_has 0 [.int x3, .int x4] [] σ (kI (fun r1 σ1 => (if r1 = 0 then PW (d + 1) M_Routes_leadsTo 47 [.ref x0, uu, .int x2, .int x3, .int x4] [] σ1 K else sh σ1 x0 = (1, 9) ∧ (∃ b1 : Nat, gR σ1 576 x0 = some b1 ∧ (∃ n1 : Nat, sh σ1 b1 = (9, n1) ∧ vp_in x4 n1 ∧ (∃ b2 : Nat, eR σ1 b1 (ix x4) = some b2 ∧ sh σ1 b2 = (1, 8) ∧ PW d M_Route_holds 0 [.ref b2, .int x2, uu] [] σ1 (kI (fun r2 σ2 => (if r2 = 0 then PW (d + 1) M_Routes_leadsTo 47 [.ref x0, uu, .int x2, .int x3, .int x4] [] σ2 K else K (.inl (some (.int 1))) σ2)) K)))))) K))) : PW (d + 1) M_Routes_leadsTo 13 [.ref x0, uu, .int x2, .int x3, .int x4] [] σ K := by
  refine pw_iload dc_Routes_leadsTo_13 rfl ?_
  refine pw_aload_n dc_Routes_leadsTo_15 rfl rfl ?_
  obtain ⟨hs1, h⟩ := h
  refine pw_getI (c := 9) (k := 1) (f := 577) dc_Routes_leadsTo_16 fl_Routes_18 rfl rfl hs1 ?_
  refine pw_icmp_ge (tgt := 53) dc_Routes_leadsTo_19 (by decide) (fun hc => ?_) (fun hc => ?_)
  · have h := ite_t h hc
    refine pw_iconst (v := 0) dc_Routes_leadsTo_53 (by decide) ?_
    exact pw_iret dc_Routes_leadsTo_54 rfl (bo_nar (Or.inl rfl)) h
  · have h := ite_f h hc
    refine pw_iload_n dc_Routes_leadsTo_22 rfl ?_
    refine pw_iload dc_Routes_leadsTo_23 rfl ?_
    refine pw_callS (vs := [.int x3, .int x4]) (st := []) dc_Routes_leadsTo_25 cq_Routes_has (List.mem_of_getElem? (i := 652) (by decide +kernel)) (List.mem_of_getElem? (i := 651) (by decide +kernel)) rfl rfl (cat_cons rfl (cat_cons rfl (cat_nil))) (Nat.le_of_ble_eq_true rfl) (PW.mono (kI_kN (fun r1 σ1 h => ?_)) h)
    refine pw_if_eq (tgt := 47) dc_Routes_leadsTo_28 (by decide) (fun hc => ?_) (fun hc => ?_)
    · have h := ite_t h hc
      exact h
    · have h := ite_f h hc
      refine pw_aload_n dc_Routes_leadsTo_31 rfl rfl ?_
      obtain ⟨hs2, h⟩ := h
      refine pw_getR (c := 9) (k := 0) (f := 576) dc_Routes_leadsTo_32 fl_Routes_11 rfl rfl hs2 ?_
      obtain ⟨b1, hb1, h⟩ := h
      refine PW.top (v' := .ref b1) (congrArg va_rf hb1) ?_
      refine pw_iload dc_Routes_leadsTo_35 rfl ?_
      obtain ⟨n1, hs3, h⟩ := h
      obtain ⟨hi1, h⟩ := h
      refine pw_aald (k := 9) dc_Routes_leadsTo_37 (by unfold rk; decide) hs3 hi1 ?_
      obtain ⟨b2, hb2, h⟩ := h
      refine PW.top (v' := .ref b2) (congrArg va_rf hb2) ?_
      refine pw_iload_n dc_Routes_leadsTo_38 rfl ?_
      obtain ⟨hs4, h⟩ := h
      refine pw_callV (vs := [.int x2]) (st := []) (b := b2) (cn := 8) dc_Routes_leadsTo_39 cq_Route_holds (List.mem_of_getElem? (i := 751) (by decide +kernel)) (List.mem_of_getElem? (i := 752) (by decide +kernel)) (List.mem_of_getElem? (i := 750) (by decide +kernel)) rfl hs4 rfl rfl (by decide) (cat_cons rfl (cat_nil)) (Nat.le_of_ble_eq_true rfl) (PW.mono (kI_kN (fun r2 σ2 h => ?_)) h)
      refine pw_if_eq (tgt := 47) dc_Routes_leadsTo_42 (by decide) (fun hc => ?_) (fun hc => ?_)
      · have h := ite_t h hc
        exact h
      · have h := ite_f h hc
        refine pw_iconst (v := 1) dc_Routes_leadsTo_45 (by decide) ?_
        exact pw_iret dc_Routes_leadsTo_46 rfl (bo_nar (Or.inr rfl)) h
set_option maxRecDepth 20000 in
theorem e_Routes_leadsTo_47 {d : Nat} {σ : PH} {K : PO → PH → Prop} (x0 : Nat) (x2 : Int32) (x3 : Int32) (x4 : Int32) (h : PW (d + 1) M_Routes_leadsTo 13 [.ref x0, uu, .int x2, .int x3, .int (x4 + 1)] [] σ K) : PW (d + 1) M_Routes_leadsTo 47 [.ref x0, uu, .int x2, .int x3, .int x4] [] σ K := by
  refine pw_iincv (v := 1) dc_Routes_leadsTo_47 (by decide) rfl (by decide) ?_
  refine pw_goto (tgt := 13) dc_Routes_leadsTo_50 (by decide) ?_
  exact h
theorem dc_Routes_withMembers_0 : decode M_Routes_withMembers.2.1 0 = .ok (.iload_n 1, 1) := by decide +kernel
theorem dc_Routes_withMembers_1 : decode M_Routes_withMembers.2.1 1 = .ok (.istore_n 2, 1) := by decide +kernel
theorem dc_Routes_withMembers_2 : decode M_Routes_withMembers.2.1 2 = .ok (.iconst 0, 1) := by decide +kernel
theorem dc_Routes_withMembers_3 : decode M_Routes_withMembers.2.1 3 = .ok (.istore_n 3, 1) := by decide +kernel
theorem dc_Routes_withMembers_4 : decode M_Routes_withMembers.2.1 4 = .ok (.iload_n 3, 1) := by decide +kernel
theorem dc_Routes_withMembers_5 : decode M_Routes_withMembers.2.1 5 = .ok (.bipush 12, 2) := by decide +kernel
theorem dc_Routes_withMembers_7 : decode M_Routes_withMembers.2.1 7 = .ok (.if_icmp .ge 17, 3) := by decide +kernel
theorem dc_Routes_withMembers_10 : decode M_Routes_withMembers.2.1 10 = .ok (.iload_n 2, 1) := by decide +kernel
theorem dc_Routes_withMembers_11 : decode M_Routes_withMembers.2.1 11 = .ok (.aload_n 0, 1) := by decide +kernel
theorem dc_Routes_withMembers_12 : decode M_Routes_withMembers.2.1 12 = .ok (.iload_n 2, 1) := by decide +kernel
theorem dc_Routes_withMembers_13 : decode M_Routes_withMembers.2.1 13 = .ok (.invokevirtual 55, 3) := by decide +kernel
theorem dc_Routes_withMembers_16 : decode M_Routes_withMembers.2.1 16 = .ok (.ior, 1) := by decide +kernel
theorem dc_Routes_withMembers_17 : decode M_Routes_withMembers.2.1 17 = .ok (.istore_n 2, 1) := by decide +kernel
theorem dc_Routes_withMembers_18 : decode M_Routes_withMembers.2.1 18 = .ok (.iinc 3 1, 3) := by decide +kernel
theorem dc_Routes_withMembers_21 : decode M_Routes_withMembers.2.1 21 = .ok (.goto (-17), 3) := by decide +kernel
theorem dc_Routes_withMembers_24 : decode M_Routes_withMembers.2.1 24 = .ok (.iload_n 2, 1) := by decide +kernel
theorem dc_Routes_withMembers_25 : decode M_Routes_withMembers.2.1 25 = .ok (.ireturn, 1) := by decide +kernel
set_option maxRecDepth 20000 in
theorem e_Routes_withMembers_0 {d : Nat} {σ : PH} {K : PO → PH → Prop} (x0 : Nat) (x1 : Int32) (h : PW (d + 1) M_Routes_withMembers 4 [.ref x0, uu, .int x1, .int 0] [] σ K) : PW (d + 1) M_Routes_withMembers 0 [.ref x0, .int x1, uu, uu] [] σ K := by
  refine pw_iload_n dc_Routes_withMembers_0 rfl ?_
  refine pw_istore_n dc_Routes_withMembers_1 (by decide) ?_
  refine pw_iconst (v := 0) dc_Routes_withMembers_2 (by decide) ?_
  refine pw_istore_n dc_Routes_withMembers_3 (by decide) ?_
  refine PW.drop (ls' := [.ref x0, uu, .int x1, .int 0]) ⟨Or.inl rfl, Or.inr rfl, Or.inl rfl, Or.inl rfl, trivial⟩ ?_
  exact h
set_option maxRecDepth 20000 in
theorem e_Routes_withMembers_4 {d : Nat} {σ : PH} {K : PO → PH → Prop} (x0 : Nat) (x2 : Int32) (x3 : Int32) (h : (if 12 ≤ x3 then K (.inl (some (.int x2))) σ else sh σ x0 = (1, 9) ∧ PW d M_Routes_membersOf 0 [.ref x0, .int x2, uu, uu, uu] [] σ (kI (fun r1 σ1 => PW (d + 1) M_Routes_withMembers 4 [.ref x0, uu, .int (x2 ||| r1), .int (x3 + 1)] [] σ1 K) K))) : PW (d + 1) M_Routes_withMembers 4 [.ref x0, uu, .int x2, .int x3] [] σ K := by
  refine pw_iload_n dc_Routes_withMembers_4 rfl ?_
  refine pw_bipush (v := 12) dc_Routes_withMembers_5 (by decide) ?_
  refine pw_icmp_ge (tgt := 24) dc_Routes_withMembers_7 (by decide) (fun hc => ?_) (fun hc => ?_)
  · have h := ite_t h hc
    refine pw_iload_n dc_Routes_withMembers_24 rfl ?_
    exact pw_iret dc_Routes_withMembers_25 rfl rfl h
  · have h := ite_f h hc
    refine pw_iload_n dc_Routes_withMembers_10 rfl ?_
    refine pw_aload_n dc_Routes_withMembers_11 rfl rfl ?_
    refine pw_iload_n dc_Routes_withMembers_12 rfl ?_
    obtain ⟨hs1, h⟩ := h
    refine pw_callV (vs := [.int x2]) (st := [.int x2]) (b := x0) (cn := 9) dc_Routes_withMembers_13 cq_Routes_membersOf (List.mem_of_getElem? (i := 649) (by decide +kernel)) (List.mem_of_getElem? (i := 19) (by decide +kernel)) (List.mem_of_getElem? (i := 647) (by decide +kernel)) rfl hs1 rfl rfl (by decide) (cat_cons rfl (cat_nil)) (Nat.le_of_ble_eq_true rfl) (PW.mono (kI_kN (fun r1 σ1 h => ?_)) h)
    refine pw_ior dc_Routes_withMembers_16 ?_
    refine pw_istore_n dc_Routes_withMembers_17 (by decide) ?_
    refine pw_iincv (v := 1) dc_Routes_withMembers_18 (by decide) rfl (by decide) ?_
    refine pw_goto (tgt := 4) dc_Routes_withMembers_21 (by decide) ?_
    exact h
theorem dc_Routes_membersOf_0 : decode M_Routes_membersOf.2.1 0 = .ok (.iconst 0, 1) := by decide +kernel
theorem dc_Routes_membersOf_1 : decode M_Routes_membersOf.2.1 1 = .ok (.istore_n 2, 1) := by decide +kernel
theorem dc_Routes_membersOf_2 : decode M_Routes_membersOf.2.1 2 = .ok (.iconst 0, 1) := by decide +kernel
theorem dc_Routes_membersOf_3 : decode M_Routes_membersOf.2.1 3 = .ok (.istore_n 3, 1) := by decide +kernel
theorem dc_Routes_membersOf_4 : decode M_Routes_membersOf.2.1 4 = .ok (.iload_n 3, 1) := by decide +kernel
theorem dc_Routes_membersOf_5 : decode M_Routes_membersOf.2.1 5 = .ok (.aload_n 0, 1) := by decide +kernel
theorem dc_Routes_membersOf_6 : decode M_Routes_membersOf.2.1 6 = .ok (.getfield 18, 3) := by decide +kernel
theorem dc_Routes_membersOf_9 : decode M_Routes_membersOf.2.1 9 = .ok (.if_icmp .ge 59, 3) := by decide +kernel
theorem dc_Routes_membersOf_12 : decode M_Routes_membersOf.2.1 12 = .ok (.iconst 0, 1) := by decide +kernel
theorem dc_Routes_membersOf_13 : decode M_Routes_membersOf.2.1 13 = .ok (.istore 4, 2) := by decide +kernel
theorem dc_Routes_membersOf_15 : decode M_Routes_membersOf.2.1 15 = .ok (.iload_n 1, 1) := by decide +kernel
theorem dc_Routes_membersOf_16 : decode M_Routes_membersOf.2.1 16 = .ok (.iload_n 3, 1) := by decide +kernel
theorem dc_Routes_membersOf_17 : decode M_Routes_membersOf.2.1 17 = .ok (.invokestatic 47, 3) := by decide +kernel
theorem dc_Routes_membersOf_20 : decode M_Routes_membersOf.2.1 20 = .ok (.ifCond .eq 42, 3) := by decide +kernel
theorem dc_Routes_membersOf_23 : decode M_Routes_membersOf.2.1 23 = .ok (.iload 4, 2) := by decide +kernel
theorem dc_Routes_membersOf_25 : decode M_Routes_membersOf.2.1 25 = .ok (.aload_n 0, 1) := by decide +kernel
theorem dc_Routes_membersOf_26 : decode M_Routes_membersOf.2.1 26 = .ok (.getfield 11, 3) := by decide +kernel
theorem dc_Routes_membersOf_29 : decode M_Routes_membersOf.2.1 29 = .ok (.iload_n 3, 1) := by decide +kernel
theorem dc_Routes_membersOf_30 : decode M_Routes_membersOf.2.1 30 = .ok (.aaload, 1) := by decide +kernel
theorem dc_Routes_membersOf_31 : decode M_Routes_membersOf.2.1 31 = .ok (.getfield 58, 3) := by decide +kernel
theorem dc_Routes_membersOf_34 : decode M_Routes_membersOf.2.1 34 = .ok (.if_icmp .ge 28, 3) := by decide +kernel
theorem dc_Routes_membersOf_37 : decode M_Routes_membersOf.2.1 37 = .ok (.iload_n 2, 1) := by decide +kernel
theorem dc_Routes_membersOf_38 : decode M_Routes_membersOf.2.1 38 = .ok (.aload_n 0, 1) := by decide +kernel
theorem dc_Routes_membersOf_39 : decode M_Routes_membersOf.2.1 39 = .ok (.aload_n 0, 1) := by decide +kernel
theorem dc_Routes_membersOf_40 : decode M_Routes_membersOf.2.1 40 = .ok (.getfield 11, 3) := by decide +kernel
theorem dc_Routes_membersOf_43 : decode M_Routes_membersOf.2.1 43 = .ok (.iload_n 3, 1) := by decide +kernel
theorem dc_Routes_membersOf_44 : decode M_Routes_membersOf.2.1 44 = .ok (.aaload, 1) := by decide +kernel
theorem dc_Routes_membersOf_45 : decode M_Routes_membersOf.2.1 45 = .ok (.getfield 61, 3) := by decide +kernel
theorem dc_Routes_membersOf_48 : decode M_Routes_membersOf.2.1 48 = .ok (.iload 4, 2) := by decide +kernel
theorem dc_Routes_membersOf_50 : decode M_Routes_membersOf.2.1 50 = .ok (.iaload, 1) := by decide +kernel
theorem dc_Routes_membersOf_51 : decode M_Routes_membersOf.2.1 51 = .ok (.invokevirtual 40, 3) := by decide +kernel
theorem dc_Routes_membersOf_54 : decode M_Routes_membersOf.2.1 54 = .ok (.ior, 1) := by decide +kernel
theorem dc_Routes_membersOf_55 : decode M_Routes_membersOf.2.1 55 = .ok (.istore_n 2, 1) := by decide +kernel
theorem dc_Routes_membersOf_56 : decode M_Routes_membersOf.2.1 56 = .ok (.iinc 4 1, 3) := by decide +kernel
theorem dc_Routes_membersOf_59 : decode M_Routes_membersOf.2.1 59 = .ok (.goto (-44), 3) := by decide +kernel
theorem dc_Routes_membersOf_62 : decode M_Routes_membersOf.2.1 62 = .ok (.iinc 3 1, 3) := by decide +kernel
theorem dc_Routes_membersOf_65 : decode M_Routes_membersOf.2.1 65 = .ok (.goto (-61), 3) := by decide +kernel
theorem dc_Routes_membersOf_68 : decode M_Routes_membersOf.2.1 68 = .ok (.iload_n 2, 1) := by decide +kernel
theorem dc_Routes_membersOf_69 : decode M_Routes_membersOf.2.1 69 = .ok (.ireturn, 1) := by decide +kernel
set_option maxRecDepth 20000 in
theorem e_Routes_membersOf_0 {d : Nat} {σ : PH} {K : PO → PH → Prop} (x0 : Nat) (x1 : Int32) (h : PW (d + 1) M_Routes_membersOf 4 [.ref x0, .int x1, .int 0, .int 0, uu] [] σ K) : PW (d + 1) M_Routes_membersOf 0 [.ref x0, .int x1, uu, uu, uu] [] σ K := by
  refine pw_iconst (v := 0) dc_Routes_membersOf_0 (by decide) ?_
  refine pw_istore_n dc_Routes_membersOf_1 (by decide) ?_
  refine pw_iconst (v := 0) dc_Routes_membersOf_2 (by decide) ?_
  refine pw_istore_n dc_Routes_membersOf_3 (by decide) ?_
  exact h
set_option maxRecDepth 20000 in
theorem e_Routes_membersOf_4 {d : Nat} {σ : PH} {K : PO → PH → Prop} (x0 : Nat) (x1 : Int32) (x2 : Int32) (x3 : Int32) (h : sh σ x0 = (1, 9) ∧ (if (gI σ 577 x0) ≤ x3 then K (.inl (some (.int x2))) σ else PW (d + 1) M_Routes_membersOf 15 [.ref x0, .int x1, .int x2, .int x3, .int 0] [] σ K)) : PW (d + 1) M_Routes_membersOf 4 [.ref x0, .int x1, .int x2, .int x3, uu] [] σ K := by
  refine pw_iload_n dc_Routes_membersOf_4 rfl ?_
  refine pw_aload_n dc_Routes_membersOf_5 rfl rfl ?_
  obtain ⟨hs1, h⟩ := h
  refine pw_getI (c := 9) (k := 1) (f := 577) dc_Routes_membersOf_6 fl_Routes_18 rfl rfl hs1 ?_
  refine pw_icmp_ge (tgt := 68) dc_Routes_membersOf_9 (by decide) (fun hc => ?_) (fun hc => ?_)
  · have h := ite_t h hc
    refine pw_iload_n dc_Routes_membersOf_68 rfl ?_
    exact pw_iret dc_Routes_membersOf_69 rfl rfl h
  · have h := ite_f h hc
    refine pw_iconst (v := 0) dc_Routes_membersOf_12 (by decide) ?_
    refine pw_istore dc_Routes_membersOf_13 (by decide) ?_
    exact h
set_option maxRecDepth 20000 in
theorem e_Routes_membersOf_15 {d : Nat} {σ : PH} {K : PO → PH → Prop} (x0 : Nat) (x1 : Int32) (x2 : Int32) (x3 : Int32) (x4 : Int32) (h : PW d M_Routes_has 0 [.int x1, .int x3] [] σ (kI (fun r1 σ1 => (if r1 = 0 then PW (d + 1) M_Routes_membersOf 62 [.ref x0, .int x1, .int x2, .int x3, uu] [] σ1 K else sh σ1 x0 = (1, 9) ∧ (∃ b1 : Nat, gR σ1 576 x0 = some b1 ∧ (∃ n1 : Nat, sh σ1 b1 = (9, n1) ∧ vp_in x3 n1 ∧ (∃ b2 : Nat, eR σ1 b1 (ix x3) = some b2 ∧ sh σ1 b2 = (1, 8) ∧ (if (gI σ1 516 b2) ≤ x4 then PW (d + 1) M_Routes_membersOf 62 [.ref x0, .int x1, .int x2, .int x3, uu] [] σ1 K else vp_in x3 n1 ∧ (∃ b3 : Nat, gR σ1 515 b2 = some b3 ∧ (∃ n2 : Nat, sh σ1 b3 = (2, n2) ∧ vp_in x4 n2 ∧ PW d M_Routes_bitOf 0 [.ref x0, .int (eI σ1 b3 (ix x4)), uu] [] σ1 (kI (fun r2 σ2 => PW (d + 1) M_Routes_membersOf 15 [.ref x0, .int x1, .int (x2 ||| r2), .int x3, .int (x4 + 1)] [] σ2 K) K))))))))) K)) : PW (d + 1) M_Routes_membersOf 15 [.ref x0, .int x1, .int x2, .int x3, .int x4] [] σ K := by
  refine pw_iload_n dc_Routes_membersOf_15 rfl ?_
  refine pw_iload_n dc_Routes_membersOf_16 rfl ?_
  refine pw_callS (vs := [.int x1, .int x3]) (st := []) dc_Routes_membersOf_17 cq_Routes_has (List.mem_of_getElem? (i := 652) (by decide +kernel)) (List.mem_of_getElem? (i := 651) (by decide +kernel)) rfl rfl (cat_cons rfl (cat_cons rfl (cat_nil))) (Nat.le_of_ble_eq_true rfl) (PW.mono (kI_kN (fun r1 σ1 h => ?_)) h)
  refine pw_if_eq (tgt := 62) dc_Routes_membersOf_20 (by decide) (fun hc => ?_) (fun hc => ?_)
  · have h := ite_t h hc
    refine PW.drop (ls' := [.ref x0, .int x1, .int x2, .int x3, uu]) ⟨Or.inl rfl, Or.inl rfl, Or.inl rfl, Or.inl rfl, Or.inr rfl, trivial⟩ ?_
    exact h
  · have h := ite_f h hc
    refine pw_iload dc_Routes_membersOf_23 rfl ?_
    refine pw_aload_n dc_Routes_membersOf_25 rfl rfl ?_
    obtain ⟨hs1, h⟩ := h
    refine pw_getR (c := 9) (k := 0) (f := 576) dc_Routes_membersOf_26 fl_Routes_11 rfl rfl hs1 ?_
    obtain ⟨b1, hb1, h⟩ := h
    refine PW.top (v' := .ref b1) (congrArg va_rf hb1) ?_
    refine pw_iload_n dc_Routes_membersOf_29 rfl ?_
    obtain ⟨n1, hs2, h⟩ := h
    obtain ⟨hi1, h⟩ := h
    refine pw_aald (k := 9) dc_Routes_membersOf_30 (by unfold rk; decide) hs2 hi1 ?_
    obtain ⟨b2, hb2, h⟩ := h
    refine PW.top (v' := .ref b2) (congrArg va_rf hb2) ?_
    obtain ⟨hs3, h⟩ := h
    refine pw_getI (c := 8) (k := 4) (f := 516) dc_Routes_membersOf_31 fl_Routes_58 rfl rfl hs3 ?_
    refine pw_icmp_ge (tgt := 62) dc_Routes_membersOf_34 (by decide) (fun hc => ?_) (fun hc => ?_)
    · have h := ite_t h hc
      refine PW.drop (ls' := [.ref x0, .int x1, .int x2, .int x3, uu]) ⟨Or.inl rfl, Or.inl rfl, Or.inl rfl, Or.inl rfl, Or.inr rfl, trivial⟩ ?_
      exact h
    · have h := ite_f h hc
      refine pw_iload_n dc_Routes_membersOf_37 rfl ?_
      refine pw_aload_n dc_Routes_membersOf_38 rfl rfl ?_
      refine pw_aload_n dc_Routes_membersOf_39 rfl rfl ?_
      refine pw_getR (c := 9) (k := 0) (f := 576) dc_Routes_membersOf_40 fl_Routes_11 rfl rfl hs1 ?_
      refine PW.top (v' := .ref b1) (congrArg va_rf hb1) ?_
      refine pw_iload_n dc_Routes_membersOf_43 rfl ?_
      obtain ⟨hi2, h⟩ := h
      refine pw_aald (k := 9) dc_Routes_membersOf_44 (by unfold rk; decide) hs2 hi2 ?_
      refine PW.top (v' := .ref b2) (congrArg va_rf hb2) ?_
      refine pw_getR (c := 8) (k := 3) (f := 515) dc_Routes_membersOf_45 fl_Routes_61 rfl rfl hs3 ?_
      obtain ⟨b3, hb3, h⟩ := h
      refine PW.top (v' := .ref b3) (congrArg va_rf hb3) ?_
      refine pw_iload dc_Routes_membersOf_48 rfl ?_
      obtain ⟨n2, hs4, h⟩ := h
      obtain ⟨hi3, h⟩ := h
      refine pw_iald dc_Routes_membersOf_50 hs4 hi3 ?_
      refine pw_callV (vs := [.int (eI σ1 b3 (ix x4))]) (st := [.int x2]) (b := x0) (cn := 9) dc_Routes_membersOf_51 cq_Routes_bitOf (List.mem_of_getElem? (i := 637) (by decide +kernel)) (List.mem_of_getElem? (i := 17) (by decide +kernel)) (List.mem_of_getElem? (i := 635) (by decide +kernel)) rfl hs1 rfl rfl (by decide) (cat_cons rfl (cat_nil)) (Nat.le_of_ble_eq_true rfl) (PW.mono (kI_kN (fun r2 σ2 h => ?_)) h)
      refine pw_ior dc_Routes_membersOf_54 ?_
      refine pw_istore_n dc_Routes_membersOf_55 (by decide) ?_
      refine pw_iincv (v := 1) dc_Routes_membersOf_56 (by decide) rfl (by decide) ?_
      refine pw_goto (tgt := 15) dc_Routes_membersOf_59 (by decide) ?_
      exact h
set_option maxRecDepth 20000 in
theorem e_Routes_membersOf_62 {d : Nat} {σ : PH} {K : PO → PH → Prop} (x0 : Nat) (x1 : Int32) (x2 : Int32) (x3 : Int32) (h : PW (d + 1) M_Routes_membersOf 4 [.ref x0, .int x1, .int x2, .int (x3 + 1), uu] [] σ K) : PW (d + 1) M_Routes_membersOf 62 [.ref x0, .int x1, .int x2, .int x3, uu] [] σ K := by
  refine pw_iincv (v := 1) dc_Routes_membersOf_62 (by decide) rfl (by decide) ?_
  refine pw_goto (tgt := 4) dc_Routes_membersOf_65 (by decide) ?_
  exact h
theorem dc_Routes_bitOf_0 : decode M_Routes_bitOf.2.1 0 = .ok (.aload_n 0, 1) := by decide +kernel
theorem dc_Routes_bitOf_1 : decode M_Routes_bitOf.2.1 1 = .ok (.iload_n 1, 1) := by decide +kernel
theorem dc_Routes_bitOf_2 : decode M_Routes_bitOf.2.1 2 = .ok (.invokevirtual 64, 3) := by decide +kernel
theorem dc_Routes_bitOf_5 : decode M_Routes_bitOf.2.1 5 = .ok (.istore_n 2, 1) := by decide +kernel
theorem dc_Routes_bitOf_6 : decode M_Routes_bitOf.2.1 6 = .ok (.iload_n 2, 1) := by decide +kernel
theorem dc_Routes_bitOf_7 : decode M_Routes_bitOf.2.1 7 = .ok (.iconst (-1), 1) := by decide +kernel
theorem dc_Routes_bitOf_8 : decode M_Routes_bitOf.2.1 8 = .ok (.if_icmp .ne 9, 3) := by decide +kernel
theorem dc_Routes_bitOf_11 : decode M_Routes_bitOf.2.1 11 = .ok (.sipush 4096, 3) := by decide +kernel
theorem dc_Routes_bitOf_14 : decode M_Routes_bitOf.2.1 14 = .ok (.goto 6, 3) := by decide +kernel
theorem dc_Routes_bitOf_17 : decode M_Routes_bitOf.2.1 17 = .ok (.iconst 1, 1) := by decide +kernel
theorem dc_Routes_bitOf_18 : decode M_Routes_bitOf.2.1 18 = .ok (.iload_n 2, 1) := by decide +kernel
theorem dc_Routes_bitOf_19 : decode M_Routes_bitOf.2.1 19 = .ok (.ishl, 1) := by decide +kernel
theorem dc_Routes_bitOf_20 : decode M_Routes_bitOf.2.1 20 = .ok (.ireturn, 1) := by decide +kernel
set_option maxRecDepth 20000 in
theorem e_Routes_bitOf_0 {d : Nat} {σ : PH} {K : PO → PH → Prop} (x0 : Nat) (x1 : Int32) (h : sh σ x0 = (1, 9) ∧ PW d M_Routes_rowOf 0 [.ref x0, .int x1, uu] [] σ (kI (fun r1 σ1 => (if r1 = (-1) then K (.inl (some (.int 4096))) σ1 else K (.inl (some (.int (1 <<< (r1 &&& 31))))) σ1)) K)) : PW (d + 1) M_Routes_bitOf 0 [.ref x0, .int x1, uu] [] σ K := by
  refine pw_aload_n dc_Routes_bitOf_0 rfl rfl ?_
  refine pw_iload_n dc_Routes_bitOf_1 rfl ?_
  obtain ⟨hs1, h⟩ := h
  refine pw_callV (vs := [.int x1]) (st := []) (b := x0) (cn := 9) dc_Routes_bitOf_2 cq_Routes_rowOf (List.mem_of_getElem? (i := 640) (by decide +kernel)) (List.mem_of_getElem? (i := 641) (by decide +kernel)) (List.mem_of_getElem? (i := 639) (by decide +kernel)) rfl hs1 rfl rfl (by decide) (cat_cons rfl (cat_nil)) (Nat.le_of_ble_eq_true rfl) (PW.mono (kI_kN (fun r1 σ1 h => ?_)) h)
  refine pw_istore_n dc_Routes_bitOf_5 (by decide) ?_
  refine pw_iload_n dc_Routes_bitOf_6 rfl ?_
  refine pw_iconst (v := (-1)) dc_Routes_bitOf_7 (by decide) ?_
  refine pw_icmp_ne (tgt := 17) dc_Routes_bitOf_8 (by decide) (fun hc => ?_) (fun hc => ?_)
  · have h := ite_f h hc
    refine pw_iconst (v := 1) dc_Routes_bitOf_17 (by decide) ?_
    refine pw_iload_n dc_Routes_bitOf_18 rfl ?_
    refine pw_ishl dc_Routes_bitOf_19 ?_
    exact pw_iret dc_Routes_bitOf_20 rfl rfl h
  · have h := ite_t h hc
    refine pw_sipush (v := 4096) dc_Routes_bitOf_11 (by decide) ?_
    refine pw_goto (tgt := 20) dc_Routes_bitOf_14 (by decide) ?_
    exact pw_iret dc_Routes_bitOf_20 rfl rfl h
