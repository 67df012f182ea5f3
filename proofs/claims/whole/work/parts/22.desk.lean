theorem fl_Desk_11 : FL "RelayDesk" 11 0 0 := ⟨by decide, by decide, Or.inl (List.mem_of_getElem? (i := 339) (by decide +kernel))⟩
theorem fl_Desk_17 : FL "RelayDesk" 17 0 1 := ⟨by decide, by decide, Or.inl (List.mem_of_getElem? (i := 340) (by decide +kernel))⟩
theorem fl_Desk_23 : FL "RelayDesk" 23 0 2 := ⟨by decide, by decide, Or.inl (List.mem_of_getElem? (i := 341) (by decide +kernel))⟩
theorem fl_Desk_30 : FL "RelayDesk" 30 0 3 := ⟨by decide, by decide, Or.inl (List.mem_of_getElem? (i := 342) (by decide +kernel))⟩
theorem fl_Desk_37 : FL "RelayDesk" 37 0 4 := ⟨by decide, by decide, Or.inl (List.mem_of_getElem? (i := 343) (by decide +kernel))⟩
theorem fl_Desk_50 : FL "RelayDesk" 50 1 0 := ⟨by decide, by decide, Or.inr ⟨"RelayDesk", List.mem_of_getElem? (i := 281) (by decide +kernel)⟩⟩
theorem fl_Desk_54 : FL "RelayDesk" 54 1 1 := ⟨by decide, by decide, Or.inr ⟨"RelayDesk", List.mem_of_getElem? (i := 283) (by decide +kernel)⟩⟩
theorem fl_Desk_71 : FL "RelayDesk" 71 1 2 := ⟨by decide, by decide, Or.inr ⟨"RelayDesk", List.mem_of_getElem? (i := 285) (by decide +kernel)⟩⟩
theorem fl_Desk_75 : FL "RelayDesk" 75 4 0 := ⟨by decide, by decide, Or.inr ⟨"RelayDesk", List.mem_of_getElem? (i := 226) (by decide +kernel)⟩⟩
theorem fl_Desk_90 : FL "RelayDesk" 90 9 0 := ⟨by decide, by decide, Or.inr ⟨"RelayDesk", List.mem_of_getElem? (i := 133) (by decide +kernel)⟩⟩
theorem fl_Desk_112 : FL "RelayDesk" 112 8 1 := ⟨by decide, by decide, Or.inr ⟨"RelayDesk", List.mem_of_getElem? (i := 113) (by decide +kernel)⟩⟩
theorem fl_Desk_115 : FL "RelayDesk" 115 8 2 := ⟨by decide, by decide, Or.inr ⟨"RelayDesk", List.mem_of_getElem? (i := 114) (by decide +kernel)⟩⟩
theorem fl_Desk_125 : FL "RelayDesk" 125 8 4 := ⟨by decide, by decide, Or.inr ⟨"RelayDesk", List.mem_of_getElem? (i := 118) (by decide +kernel)⟩⟩
theorem fl_Desk_137 : FL "RelayDesk" 137 1 3 := ⟨by decide, by decide, Or.inr ⟨"RelayDesk", List.mem_of_getElem? (i := 287) (by decide +kernel)⟩⟩
theorem fl_Desk_160 : FL "RelayDesk" 160 5 9 := ⟨by decide, by decide, Or.inr ⟨"RelayDesk", List.mem_of_getElem? (i := 255) (by decide +kernel)⟩⟩
theorem fl_Desk_166 : FL "RelayDesk" 166 0 5 := ⟨by decide, by decide, Or.inl (List.mem_of_getElem? (i := 344) (by decide +kernel))⟩
theorem fl_Desk_172 : FL "RelayDesk" 172 6 0 := ⟨by decide, by decide, Or.inr ⟨"RelayDesk", List.mem_of_getElem? (i := 305) (by decide +kernel)⟩⟩
theorem fl_Desk_175 : FL "RelayDesk" 175 6 4 := ⟨by decide, by decide, Or.inr ⟨"RelayDesk", List.mem_of_getElem? (i := 311) (by decide +kernel)⟩⟩
theorem fl_Desk_179 : FL "RelayDesk" 179 0 6 := ⟨by decide, by decide, Or.inl (List.mem_of_getElem? (i := 345) (by decide +kernel))⟩
theorem fl_Desk_182 : FL "RelayDesk" 182 7 0 := ⟨by decide, by decide, Or.inr ⟨"RelayDesk", List.mem_of_getElem? (i := 331) (by decide +kernel)⟩⟩
theorem fl_Desk_194 : FL "RelayDesk" 194 7 1 := ⟨by decide, by decide, Or.inr ⟨"RelayDesk", List.mem_of_getElem? (i := 333) (by decide +kernel)⟩⟩
theorem fl_Desk_198 : FL "RelayDesk" 198 3 1 := ⟨by decide, by decide, Or.inr ⟨"RelayDesk", List.mem_of_getElem? (i := 196) (by decide +kernel)⟩⟩
theorem fl_Desk_231 : FL "RelayDesk" 231 10 0 := ⟨by decide, by decide, Or.inr ⟨"RelayDesk", List.mem_of_getElem? (i := 148) (by decide +kernel)⟩⟩
theorem fl_Desk_255 : FL "RelayDesk" 255 9 1 := ⟨by decide, by decide, Or.inr ⟨"RelayDesk", List.mem_of_getElem? (i := 135) (by decide +kernel)⟩⟩
theorem dc_Desk_init_0 : decode M_Desk_init.2.1 0 = .ok (.aload_n 0, 1) := by decide +kernel
theorem dc_Desk_init_1 : decode M_Desk_init.2.1 1 = .ok (.invokespecial 3, 3) := by decide +kernel
theorem dc_Desk_init_4 : decode M_Desk_init.2.1 4 = .ok (.aload_n 0, 1) := by decide +kernel
theorem dc_Desk_init_5 : decode M_Desk_init.2.1 5 = .ok (.bipush 8, 2) := by decide +kernel
theorem dc_Desk_init_7 : decode M_Desk_init.2.1 7 = .ok (.anewarray 9, 3) := by decide +kernel
theorem dc_Desk_init_10 : decode M_Desk_init.2.1 10 = .ok (.putfield 11, 3) := by decide +kernel
theorem dc_Desk_init_13 : decode M_Desk_init.2.1 13 = .ok (.aload_n 0, 1) := by decide +kernel
theorem dc_Desk_init_14 : decode M_Desk_init.2.1 14 = .ok (.bipush 10, 2) := by decide +kernel
theorem dc_Desk_init_16 : decode M_Desk_init.2.1 16 = .ok (.anewarray 15, 3) := by decide +kernel
theorem dc_Desk_init_19 : decode M_Desk_init.2.1 19 = .ok (.putfield 17, 3) := by decide +kernel
theorem dc_Desk_init_22 : decode M_Desk_init.2.1 22 = .ok (.aload_n 0, 1) := by decide +kernel
theorem dc_Desk_init_23 : decode M_Desk_init.2.1 23 = .ok (.bipush 6, 2) := by decide +kernel
theorem dc_Desk_init_25 : decode M_Desk_init.2.1 25 = .ok (.anewarray 21, 3) := by decide +kernel
theorem dc_Desk_init_28 : decode M_Desk_init.2.1 28 = .ok (.putfield 23, 3) := by decide +kernel
theorem dc_Desk_init_31 : decode M_Desk_init.2.1 31 = .ok (.aload_n 0, 1) := by decide +kernel
theorem dc_Desk_init_32 : decode M_Desk_init.2.1 32 = .ok (.new 27, 3) := by decide +kernel
theorem dc_Desk_init_35 : decode M_Desk_init.2.1 35 = .ok (.dup, 1) := by decide +kernel
theorem dc_Desk_init_36 : decode M_Desk_init.2.1 36 = .ok (.invokespecial 29, 3) := by decide +kernel
theorem dc_Desk_init_39 : decode M_Desk_init.2.1 39 = .ok (.putfield 30, 3) := by decide +kernel
theorem dc_Desk_init_42 : decode M_Desk_init.2.1 42 = .ok (.aload_n 0, 1) := by decide +kernel
theorem dc_Desk_init_43 : decode M_Desk_init.2.1 43 = .ok (.new 34, 3) := by decide +kernel
theorem dc_Desk_init_46 : decode M_Desk_init.2.1 46 = .ok (.dup, 1) := by decide +kernel
theorem dc_Desk_init_47 : decode M_Desk_init.2.1 47 = .ok (.invokespecial 36, 3) := by decide +kernel
theorem dc_Desk_init_50 : decode M_Desk_init.2.1 50 = .ok (.putfield 37, 3) := by decide +kernel
theorem dc_Desk_init_53 : decode M_Desk_init.2.1 53 = .ok (.iconst 0, 1) := by decide +kernel
theorem dc_Desk_init_54 : decode M_Desk_init.2.1 54 = .ok (.istore_n 1, 1) := by decide +kernel
theorem dc_Desk_init_55 : decode M_Desk_init.2.1 55 = .ok (.iload_n 1, 1) := by decide +kernel
theorem dc_Desk_init_56 : decode M_Desk_init.2.1 56 = .ok (.bipush 8, 2) := by decide +kernel
theorem dc_Desk_init_58 : decode M_Desk_init.2.1 58 = .ok (.if_icmp .ge 23, 3) := by decide +kernel
theorem dc_Desk_init_61 : decode M_Desk_init.2.1 61 = .ok (.aload_n 0, 1) := by decide +kernel
theorem dc_Desk_init_62 : decode M_Desk_init.2.1 62 = .ok (.getfield 11, 3) := by decide +kernel
theorem dc_Desk_init_65 : decode M_Desk_init.2.1 65 = .ok (.iload_n 1, 1) := by decide +kernel
theorem dc_Desk_init_66 : decode M_Desk_init.2.1 66 = .ok (.new 9, 3) := by decide +kernel
theorem dc_Desk_init_69 : decode M_Desk_init.2.1 69 = .ok (.dup, 1) := by decide +kernel
theorem dc_Desk_init_70 : decode M_Desk_init.2.1 70 = .ok (.iload_n 1, 1) := by decide +kernel
theorem dc_Desk_init_71 : decode M_Desk_init.2.1 71 = .ok (.invokespecial 41, 3) := by decide +kernel
theorem dc_Desk_init_74 : decode M_Desk_init.2.1 74 = .ok (.aastore, 1) := by decide +kernel
theorem dc_Desk_init_75 : decode M_Desk_init.2.1 75 = .ok (.iinc 1 1, 3) := by decide +kernel
theorem dc_Desk_init_78 : decode M_Desk_init.2.1 78 = .ok (.goto (-23), 3) := by decide +kernel
theorem dc_Desk_init_81 : decode M_Desk_init.2.1 81 = .ok (.iconst 0, 1) := by decide +kernel
theorem dc_Desk_init_82 : decode M_Desk_init.2.1 82 = .ok (.istore_n 1, 1) := by decide +kernel
theorem dc_Desk_init_83 : decode M_Desk_init.2.1 83 = .ok (.iload_n 1, 1) := by decide +kernel
theorem dc_Desk_init_84 : decode M_Desk_init.2.1 84 = .ok (.bipush 10, 2) := by decide +kernel
theorem dc_Desk_init_86 : decode M_Desk_init.2.1 86 = .ok (.if_icmp .ge 22, 3) := by decide +kernel
theorem dc_Desk_init_89 : decode M_Desk_init.2.1 89 = .ok (.aload_n 0, 1) := by decide +kernel
theorem dc_Desk_init_90 : decode M_Desk_init.2.1 90 = .ok (.getfield 17, 3) := by decide +kernel
theorem dc_Desk_init_93 : decode M_Desk_init.2.1 93 = .ok (.iload_n 1, 1) := by decide +kernel
theorem dc_Desk_init_94 : decode M_Desk_init.2.1 94 = .ok (.new 15, 3) := by decide +kernel
theorem dc_Desk_init_97 : decode M_Desk_init.2.1 97 = .ok (.dup, 1) := by decide +kernel
theorem dc_Desk_init_98 : decode M_Desk_init.2.1 98 = .ok (.invokespecial 44, 3) := by decide +kernel
theorem dc_Desk_init_101 : decode M_Desk_init.2.1 101 = .ok (.aastore, 1) := by decide +kernel
theorem dc_Desk_init_102 : decode M_Desk_init.2.1 102 = .ok (.iinc 1 1, 3) := by decide +kernel
theorem dc_Desk_init_105 : decode M_Desk_init.2.1 105 = .ok (.goto (-22), 3) := by decide +kernel
theorem dc_Desk_init_108 : decode M_Desk_init.2.1 108 = .ok (.iconst 0, 1) := by decide +kernel
theorem dc_Desk_init_109 : decode M_Desk_init.2.1 109 = .ok (.istore_n 1, 1) := by decide +kernel
theorem dc_Desk_init_110 : decode M_Desk_init.2.1 110 = .ok (.iload_n 1, 1) := by decide +kernel
theorem dc_Desk_init_111 : decode M_Desk_init.2.1 111 = .ok (.bipush 6, 2) := by decide +kernel
theorem dc_Desk_init_113 : decode M_Desk_init.2.1 113 = .ok (.if_icmp .ge 22, 3) := by decide +kernel
theorem dc_Desk_init_116 : decode M_Desk_init.2.1 116 = .ok (.aload_n 0, 1) := by decide +kernel
theorem dc_Desk_init_117 : decode M_Desk_init.2.1 117 = .ok (.getfield 23, 3) := by decide +kernel
theorem dc_Desk_init_120 : decode M_Desk_init.2.1 120 = .ok (.iload_n 1, 1) := by decide +kernel
theorem dc_Desk_init_121 : decode M_Desk_init.2.1 121 = .ok (.new 21, 3) := by decide +kernel
theorem dc_Desk_init_124 : decode M_Desk_init.2.1 124 = .ok (.dup, 1) := by decide +kernel
theorem dc_Desk_init_125 : decode M_Desk_init.2.1 125 = .ok (.invokespecial 45, 3) := by decide +kernel
theorem dc_Desk_init_128 : decode M_Desk_init.2.1 128 = .ok (.aastore, 1) := by decide +kernel
theorem dc_Desk_init_129 : decode M_Desk_init.2.1 129 = .ok (.iinc 1 1, 3) := by decide +kernel
theorem dc_Desk_init_132 : decode M_Desk_init.2.1 132 = .ok (.goto (-22), 3) := by decide +kernel
theorem dc_Desk_init_135 : decode M_Desk_init.2.1 135 = .ok (.return_, 1) := by decide +kernel
set_option maxRecDepth 20000 in
theorem e_Desk_init_0 {d : Nat} {σ : PH} {K : PO → PH → Prop} (x0 : Nat) (h : cc σ + 1 ≤ 601024 ∧ cs σ + 8 ≤ 7293034 ∧ (∀ σ1 : PH, σ1 = mk σ (6, 8) 8 → sh σ1 x0 = (1, 0) ∧ (∀ σ2 : PH, σ2 = pR σ1 0 x0 (some (nx σ)) → cc σ2 + 1 ≤ 601024 ∧ cs σ2 + 10 ≤ 7293034 ∧ (∀ σ3 : PH, σ3 = mk σ2 (7, 10) 10 → sh σ3 x0 = (1, 0) ∧ (∀ σ4 : PH, σ4 = pR σ3 1 x0 (some (nx σ2)) → cc σ4 + 1 ≤ 601024 ∧ cs σ4 + 6 ≤ 7293034 ∧ (∀ σ5 : PH, σ5 = mk σ4 (8, 6) 6 → sh σ5 x0 = (1, 0) ∧ (∀ σ6 : PH, σ6 = pR σ5 2 x0 (some (nx σ4)) → cc σ6 + 1 ≤ 601024 ∧ cs σ6 + 2 ≤ 7293034 ∧ (∀ σ7 : PH, σ7 = mk σ6 (1, 9) 2 → PW d M_Routes_init 0 [.ref (nx σ6), uu] [] σ7 (kV (fun σ8 => sh σ8 x0 = (1, 0) ∧ (∀ σ9 : PH, σ9 = pR σ8 3 x0 (some (nx σ6)) → cc σ9 + 1 ≤ 601024 ∧ cs σ9 + 7 ≤ 7293034 ∧ (∀ σ10 : PH, σ10 = mk σ9 (1, 10) 7 → PW d M_Header_init 0 [.ref (nx σ9)] [] σ10 (kV (fun σ11 => sh σ11 x0 = (1, 0) ∧ (∀ σ12 : PH, σ12 = pR σ11 4 x0 (some (nx σ9)) → PW (d + 1) M_Desk_init 55 [.ref x0, .int 0] [] σ12 K)) K)))) K))))))))) : PW (d + 1) M_Desk_init 0 [.ref x0, uu] [] σ K := by
  refine pw_aload_n dc_Desk_init_0 rfl rfl ?_
  refine pw_objInit dc_Desk_init_1 (List.mem_of_getElem? (i := 90) (by decide +kernel)) (List.mem_of_getElem? (i := 91) (by decide +kernel)) (List.mem_of_getElem? (i := 92) (by decide +kernel)) (Nat.le_of_ble_eq_true rfl) ?_
  refine pw_aload_n dc_Desk_init_4 rfl rfl ?_
  refine pw_bipush (v := 8) dc_Desk_init_5 (by decide) ?_
  refine PW.top (v' := .int (nI 8)) rfl ?_
  obtain ⟨hr1, hr2, h⟩ := h
  have h := h _ rfl
  refine pw_anew (k := 6) (N := 8) dc_Desk_init_7 (by unfold rk; decide) (List.mem_of_getElem? (i := 93) (by decide +kernel)) (List.mem_of_getElem? (i := 94) (by decide +kernel)) (by decide) hr1 hr2 ?_
  obtain ⟨hs1, h⟩ := h
  have h := h _ rfl
  refine pw_putR (c := 0) (k := 0) (f := 0) (v := some (nx σ)) dc_Desk_init_10 fl_Desk_11 (Or.inr ⟨rfl, rfl, rfl, List.mem_of_getElem? (i := 339) (by decide +kernel)⟩) rfl rfl hs1 ?_
  refine pw_aload_n dc_Desk_init_13 rfl rfl ?_
  refine pw_bipush (v := 10) dc_Desk_init_14 (by decide) ?_
  refine PW.top (v' := .int (nI 10)) rfl ?_
  obtain ⟨hr3, hr4, h⟩ := h
  have h := h _ rfl
  refine pw_anew (k := 7) (N := 10) dc_Desk_init_16 (by unfold rk; decide) (List.mem_of_getElem? (i := 95) (by decide +kernel)) (List.mem_of_getElem? (i := 96) (by decide +kernel)) (by decide) hr3 hr4 ?_
  obtain ⟨hs2, h⟩ := h
  have h := h _ rfl
  refine pw_putR (c := 0) (k := 1) (f := 1) (v := some _) dc_Desk_init_19 fl_Desk_17 (Or.inr ⟨rfl, rfl, rfl, List.mem_of_getElem? (i := 340) (by decide +kernel)⟩) rfl rfl hs2 ?_
  refine pw_aload_n dc_Desk_init_22 rfl rfl ?_
  refine pw_bipush (v := 6) dc_Desk_init_23 (by decide) ?_
  refine PW.top (v' := .int (nI 6)) rfl ?_
  obtain ⟨hr5, hr6, h⟩ := h
  have h := h _ rfl
  refine pw_anew (k := 8) (N := 6) dc_Desk_init_25 (by unfold rk; decide) (List.mem_of_getElem? (i := 97) (by decide +kernel)) (List.mem_of_getElem? (i := 98) (by decide +kernel)) (by decide) hr5 hr6 ?_
  obtain ⟨hs3, h⟩ := h
  have h := h _ rfl
  refine pw_putR (c := 0) (k := 2) (f := 2) (v := some _) dc_Desk_init_28 fl_Desk_23 (Or.inr ⟨rfl, rfl, rfl, List.mem_of_getElem? (i := 341) (by decide +kernel)⟩) rfl rfl hs3 ?_
  refine pw_aload_n dc_Desk_init_31 rfl rfl ?_
  obtain ⟨hr7, hr8, h⟩ := h
  have h := h _ rfl
  refine pw_new (c := 9) dc_Desk_init_32 (by decide) (List.mem_of_getElem? (i := 99) (by decide +kernel)) rfl hr7 hr8 ?_
  refine pw_dup dc_Desk_init_35 rfl ?_
  refine pw_callI (vs := []) (st := [.ref _, .ref x0]) (b := _) dc_Desk_init_36 cq_Routes_init rfl rfl (List.mem_of_getElem? (i := 103) (by decide +kernel)) (List.mem_of_getElem? (i := 102) (by decide +kernel)) (Or.inl (List.mem_of_getElem? (i := 101) (by decide +kernel))) rfl rfl (by decide) (cat_nil) (Nat.le_of_ble_eq_true rfl) (PW.mono (kV_kN (fun σ8 h => ?_)) h)
  obtain ⟨hs4, h⟩ := h
  have h := h _ rfl
  refine pw_putR (c := 0) (k := 3) (f := 3) (v := some _) dc_Desk_init_39 fl_Desk_30 (Or.inr ⟨rfl, rfl, rfl, List.mem_of_getElem? (i := 342) (by decide +kernel)⟩) rfl rfl hs4 ?_
  refine pw_aload_n dc_Desk_init_42 rfl rfl ?_
  obtain ⟨hr9, hr10, h⟩ := h
  have h := h _ rfl
  refine pw_new (c := 10) dc_Desk_init_43 (by decide) (List.mem_of_getElem? (i := 141) (by decide +kernel)) rfl hr9 hr10 ?_
  refine pw_dup dc_Desk_init_46 rfl ?_
  refine pw_callI (vs := []) (st := [.ref _, .ref x0]) (b := _) dc_Desk_init_47 cq_Header_init rfl rfl (List.mem_of_getElem? (i := 145) (by decide +kernel)) (List.mem_of_getElem? (i := 144) (by decide +kernel)) (Or.inr ⟨"RelayDesk", List.mem_of_getElem? (i := 143) (by decide +kernel)⟩) rfl rfl (by decide) (cat_nil) (Nat.le_of_ble_eq_true rfl) (PW.mono (kV_kN (fun σ11 h => ?_)) h)
  obtain ⟨hs5, h⟩ := h
  have h := h _ rfl
  refine pw_putR (c := 0) (k := 4) (f := 4) (v := some _) dc_Desk_init_50 fl_Desk_37 (Or.inr ⟨rfl, rfl, rfl, List.mem_of_getElem? (i := 343) (by decide +kernel)⟩) rfl rfl hs5 ?_
  refine pw_iconst (v := 0) dc_Desk_init_53 (by decide) ?_
  refine pw_istore_n dc_Desk_init_54 (by decide) ?_
  exact h
set_option maxRecDepth 20000 in
theorem e_Desk_init_55 {d : Nat} {σ : PH} {K : PO → PH → Prop} (x0 : Nat) (x1 : Int32) (h : (if 8 ≤ x1 then PW (d + 1) M_Desk_init 83 [.ref x0, .int 0] [] σ K else sh σ x0 = (1, 0) ∧ (∃ b1 : Nat, gR σ 0 x0 = some b1 ∧ cc σ + 1 ≤ 601024 ∧ cs σ + 4 ≤ 7293034 ∧ (∀ σ1 : PH, σ1 = mk σ (1, 1) 4 → PW d M_Channel_init 0 [.ref (nx σ), .int x1] [] σ1 (kV (fun σ2 => (∃ n1 : Nat, sh σ2 b1 = (6, n1) ∧ vp_in x1 n1 ∧ (∀ b : Nat, some (nx σ) = some b → sh σ2 b = (1, 1)) ∧ (∀ σ3 : PH, σ3 = uR σ2 b1 (ix x1) (some (nx σ)) → PW (d + 1) M_Desk_init 55 [.ref x0, .int (x1 + 1)] [] σ3 K))) K))))) : PW (d + 1) M_Desk_init 55 [.ref x0, .int x1] [] σ K := by
  refine pw_iload_n dc_Desk_init_55 rfl ?_
  refine pw_bipush (v := 8) dc_Desk_init_56 (by decide) ?_
  refine pw_icmp_ge (tgt := 81) dc_Desk_init_58 (by decide) (fun hc => ?_) (fun hc => ?_)
  · have h := ite_t h hc
    refine pw_iconst (v := 0) dc_Desk_init_81 (by decide) ?_
    refine pw_istore_n dc_Desk_init_82 (by decide) ?_
    exact h
  · have h := ite_f h hc
    refine pw_aload_n dc_Desk_init_61 rfl rfl ?_
    obtain ⟨hs1, h⟩ := h
    refine pw_getR (c := 0) (k := 0) (f := 0) dc_Desk_init_62 fl_Desk_11 rfl rfl hs1 ?_
    obtain ⟨b1, hb1, h⟩ := h
    refine PW.top (v' := .ref b1) (congrArg va_rf hb1) ?_
    refine pw_iload_n dc_Desk_init_65 rfl ?_
    obtain ⟨hr1, hr2, h⟩ := h
    have h := h _ rfl
    refine pw_new (c := 1) dc_Desk_init_66 (by decide) (List.mem_of_getElem? (i := 93) (by decide +kernel)) rfl hr1 hr2 ?_
    refine pw_dup dc_Desk_init_69 rfl ?_
    refine pw_iload_n dc_Desk_init_70 rfl ?_
    refine pw_callI (vs := [.int x1]) (st := [.ref (nx σ), .int x1, .ref b1]) (b := (nx σ)) dc_Desk_init_71 cq_Channel_init rfl rfl (List.mem_of_getElem? (i := 178) (by decide +kernel)) (List.mem_of_getElem? (i := 177) (by decide +kernel)) (Or.inl (List.mem_of_getElem? (i := 176) (by decide +kernel))) rfl rfl (by decide) (cat_cons rfl (cat_nil)) (Nat.le_of_ble_eq_true rfl) (PW.mono (kV_kN (fun σ2 h => ?_)) h)
    obtain ⟨n1, hs2, h⟩ := h
    obtain ⟨hi1, h⟩ := h
    obtain ⟨hv1, h⟩ := h
    have h := h _ rfl
    refine pw_aast (k := 6) (v := some (nx σ)) dc_Desk_init_74 (by unfold rk; decide) hs2 hi1 hv1 ?_
    refine pw_iincv (v := 1) dc_Desk_init_75 (by decide) rfl (by decide) ?_
    refine pw_goto (tgt := 55) dc_Desk_init_78 (by decide) ?_
    exact h
set_option maxRecDepth 20000 in
theorem e_Desk_init_83 {d : Nat} {σ : PH} {K : PO → PH → Prop} (x0 : Nat) (x1 : Int32) (h : (if 10 ≤ x1 then PW (d + 1) M_Desk_init 110 [.ref x0, .int 0] [] σ K else sh σ x0 = (1, 0) ∧ (∃ b1 : Nat, gR σ 1 x0 = some b1 ∧ cc σ + 1 ≤ 601024 ∧ cs σ + 5 ≤ 7293034 ∧ (∀ σ1 : PH, σ1 = mk σ (1, 6) 5 → PW d M_Message_init 0 [.ref (nx σ)] [] σ1 (kV (fun σ2 => (∃ n1 : Nat, sh σ2 b1 = (7, n1) ∧ vp_in x1 n1 ∧ (∀ b : Nat, some (nx σ) = some b → sh σ2 b = (1, 6)) ∧ (∀ σ3 : PH, σ3 = uR σ2 b1 (ix x1) (some (nx σ)) → PW (d + 1) M_Desk_init 83 [.ref x0, .int (x1 + 1)] [] σ3 K))) K))))) : PW (d + 1) M_Desk_init 83 [.ref x0, .int x1] [] σ K := by
  refine pw_iload_n dc_Desk_init_83 rfl ?_
  refine pw_bipush (v := 10) dc_Desk_init_84 (by decide) ?_
  refine pw_icmp_ge (tgt := 108) dc_Desk_init_86 (by decide) (fun hc => ?_) (fun hc => ?_)
  · have h := ite_t h hc
    refine pw_iconst (v := 0) dc_Desk_init_108 (by decide) ?_
    refine pw_istore_n dc_Desk_init_109 (by decide) ?_
    exact h
  · have h := ite_f h hc
    refine pw_aload_n dc_Desk_init_89 rfl rfl ?_
    obtain ⟨hs1, h⟩ := h
    refine pw_getR (c := 0) (k := 1) (f := 1) dc_Desk_init_90 fl_Desk_17 rfl rfl hs1 ?_
    obtain ⟨b1, hb1, h⟩ := h
    refine PW.top (v' := .ref b1) (congrArg va_rf hb1) ?_
    refine pw_iload_n dc_Desk_init_93 rfl ?_
    obtain ⟨hr1, hr2, h⟩ := h
    have h := h _ rfl
    refine pw_new (c := 6) dc_Desk_init_94 (by decide) (List.mem_of_getElem? (i := 95) (by decide +kernel)) rfl hr1 hr2 ?_
    refine pw_dup dc_Desk_init_97 rfl ?_
    refine pw_callI (vs := []) (st := [.ref (nx σ), .int x1, .ref b1]) (b := (nx σ)) dc_Desk_init_98 cq_Message_init rfl rfl (List.mem_of_getElem? (i := 300) (by decide +kernel)) (List.mem_of_getElem? (i := 299) (by decide +kernel)) (Or.inr ⟨"RelayDesk", List.mem_of_getElem? (i := 298) (by decide +kernel)⟩) rfl rfl (by decide) (cat_nil) (Nat.le_of_ble_eq_true rfl) (PW.mono (kV_kN (fun σ2 h => ?_)) h)
    obtain ⟨n1, hs2, h⟩ := h
    obtain ⟨hi1, h⟩ := h
    obtain ⟨hv1, h⟩ := h
    have h := h _ rfl
    refine pw_aast (k := 7) (v := some (nx σ)) dc_Desk_init_101 (by unfold rk; decide) hs2 hi1 hv1 ?_
    refine pw_iincv (v := 1) dc_Desk_init_102 (by decide) rfl (by decide) ?_
    refine pw_goto (tgt := 83) dc_Desk_init_105 (by decide) ?_
    exact h
set_option maxRecDepth 20000 in
theorem e_Desk_init_110 {d : Nat} {σ : PH} {K : PO → PH → Prop} (x0 : Nat) (x1 : Int32) (h : (if 6 ≤ x1 then K (.inl none) σ else sh σ x0 = (1, 0) ∧ (∃ b1 : Nat, gR σ 2 x0 = some b1 ∧ cc σ + 1 ≤ 601024 ∧ cs σ + 2 ≤ 7293034 ∧ (∀ σ1 : PH, σ1 = mk σ (1, 7) 2 → PW d M_Case_init 0 [.ref (nx σ)] [] σ1 (kV (fun σ2 => (∃ n1 : Nat, sh σ2 b1 = (8, n1) ∧ vp_in x1 n1 ∧ (∀ b : Nat, some (nx σ) = some b → sh σ2 b = (1, 7)) ∧ (∀ σ3 : PH, σ3 = uR σ2 b1 (ix x1) (some (nx σ)) → PW (d + 1) M_Desk_init 110 [.ref x0, .int (x1 + 1)] [] σ3 K))) K))))) : PW (d + 1) M_Desk_init 110 [.ref x0, .int x1] [] σ K := by
  refine pw_iload_n dc_Desk_init_110 rfl ?_
  refine pw_bipush (v := 6) dc_Desk_init_111 (by decide) ?_
  refine pw_icmp_ge (tgt := 135) dc_Desk_init_113 (by decide) (fun hc => ?_) (fun hc => ?_)
  · have h := ite_t h hc
    exact pw_vret dc_Desk_init_135 rfl h
  · have h := ite_f h hc
    refine pw_aload_n dc_Desk_init_116 rfl rfl ?_
    obtain ⟨hs1, h⟩ := h
    refine pw_getR (c := 0) (k := 2) (f := 2) dc_Desk_init_117 fl_Desk_23 rfl rfl hs1 ?_
    obtain ⟨b1, hb1, h⟩ := h
    refine PW.top (v' := .ref b1) (congrArg va_rf hb1) ?_
    refine pw_iload_n dc_Desk_init_120 rfl ?_
    obtain ⟨hr1, hr2, h⟩ := h
    have h := h _ rfl
    refine pw_new (c := 7) dc_Desk_init_121 (by decide) (List.mem_of_getElem? (i := 97) (by decide +kernel)) rfl hr1 hr2 ?_
    refine pw_dup dc_Desk_init_124 rfl ?_
    refine pw_callI (vs := []) (st := [.ref (nx σ), .int x1, .ref b1]) (b := (nx σ)) dc_Desk_init_125 cq_Case_init rfl rfl (List.mem_of_getElem? (i := 326) (by decide +kernel)) (List.mem_of_getElem? (i := 325) (by decide +kernel)) (Or.inr ⟨"RelayDesk", List.mem_of_getElem? (i := 324) (by decide +kernel)⟩) rfl rfl (by decide) (cat_nil) (Nat.le_of_ble_eq_true rfl) (PW.mono (kV_kN (fun σ2 h => ?_)) h)
    obtain ⟨n1, hs2, h⟩ := h
    obtain ⟨hi1, h⟩ := h
    obtain ⟨hv1, h⟩ := h
    have h := h _ rfl
    refine pw_aast (k := 8) (v := some (nx σ)) dc_Desk_init_128 (by unfold rk; decide) hs2 hi1 hv1 ?_
    refine pw_iincv (v := 1) dc_Desk_init_129 (by decide) rfl (by decide) ?_
    refine pw_goto (tgt := 110) dc_Desk_init_132 (by decide) ?_
    exact h
theorem dc_Desk_sign_0 : decode M_Desk_sign.2.1 0 = .ok (.iload_n 1, 1) := by decide +kernel
theorem dc_Desk_sign_1 : decode M_Desk_sign.2.1 1 = .ok (.iconst 0, 1) := by decide +kernel
theorem dc_Desk_sign_2 : decode M_Desk_sign.2.1 2 = .ok (.bipush 7, 2) := by decide +kernel
theorem dc_Desk_sign_4 : decode M_Desk_sign.2.1 4 = .ok (.invokestatic 46, 3) := by decide +kernel
theorem dc_Desk_sign_7 : decode M_Desk_sign.2.1 7 = .ok (.iload_n 2, 1) := by decide +kernel
theorem dc_Desk_sign_8 : decode M_Desk_sign.2.1 8 = .ok (.iconst 0, 1) := by decide +kernel
theorem dc_Desk_sign_9 : decode M_Desk_sign.2.1 9 = .ok (.bipush 31, 2) := by decide +kernel
theorem dc_Desk_sign_11 : decode M_Desk_sign.2.1 11 = .ok (.invokestatic 46, 3) := by decide +kernel
theorem dc_Desk_sign_14 : decode M_Desk_sign.2.1 14 = .ok (.aload_n 0, 1) := by decide +kernel
theorem dc_Desk_sign_15 : decode M_Desk_sign.2.1 15 = .ok (.getfield 11, 3) := by decide +kernel
theorem dc_Desk_sign_18 : decode M_Desk_sign.2.1 18 = .ok (.iload_n 1, 1) := by decide +kernel
theorem dc_Desk_sign_19 : decode M_Desk_sign.2.1 19 = .ok (.aaload, 1) := by decide +kernel
theorem dc_Desk_sign_20 : decode M_Desk_sign.2.1 20 = .ok (.astore_n 3, 1) := by decide +kernel
theorem dc_Desk_sign_21 : decode M_Desk_sign.2.1 21 = .ok (.aload_n 3, 1) := by decide +kernel
theorem dc_Desk_sign_22 : decode M_Desk_sign.2.1 22 = .ok (.getfield 50, 3) := by decide +kernel
theorem dc_Desk_sign_25 : decode M_Desk_sign.2.1 25 = .ok (.ifCond .ne 5, 3) := by decide +kernel
theorem dc_Desk_sign_28 : decode M_Desk_sign.2.1 28 = .ok (.iconst (-1), 1) := by decide +kernel
theorem dc_Desk_sign_29 : decode M_Desk_sign.2.1 29 = .ok (.ireturn, 1) := by decide +kernel
theorem dc_Desk_sign_30 : decode M_Desk_sign.2.1 30 = .ok (.aload_n 3, 1) := by decide +kernel
theorem dc_Desk_sign_31 : decode M_Desk_sign.2.1 31 = .ok (.getfield 54, 3) := by decide +kernel
theorem dc_Desk_sign_34 : decode M_Desk_sign.2.1 34 = .ok (.iload_n 2, 1) := by decide +kernel
theorem dc_Desk_sign_35 : decode M_Desk_sign.2.1 35 = .ok (.invokevirtual 58, 3) := by decide +kernel
theorem dc_Desk_sign_38 : decode M_Desk_sign.2.1 38 = .ok (.ifCond .ne 5, 3) := by decide +kernel
theorem dc_Desk_sign_41 : decode M_Desk_sign.2.1 41 = .ok (.iconst 0, 1) := by decide +kernel
theorem dc_Desk_sign_42 : decode M_Desk_sign.2.1 42 = .ok (.ireturn, 1) := by decide +kernel
theorem dc_Desk_sign_43 : decode M_Desk_sign.2.1 43 = .ok (.aload_n 0, 1) := by decide +kernel
theorem dc_Desk_sign_44 : decode M_Desk_sign.2.1 44 = .ok (.aload_n 3, 1) := by decide +kernel
theorem dc_Desk_sign_45 : decode M_Desk_sign.2.1 45 = .ok (.invokevirtual 64, 3) := by decide +kernel
theorem dc_Desk_sign_48 : decode M_Desk_sign.2.1 48 = .ok (.istore 4, 2) := by decide +kernel
theorem dc_Desk_sign_50 : decode M_Desk_sign.2.1 50 = .ok (.aload_n 3, 1) := by decide +kernel
theorem dc_Desk_sign_51 : decode M_Desk_sign.2.1 51 = .ok (.getfield 54, 3) := by decide +kernel
theorem dc_Desk_sign_54 : decode M_Desk_sign.2.1 54 = .ok (.invokevirtual 68, 3) := by decide +kernel
theorem dc_Desk_sign_57 : decode M_Desk_sign.2.1 57 = .ok (.iload 4, 2) := by decide +kernel
theorem dc_Desk_sign_59 : decode M_Desk_sign.2.1 59 = .ok (.ireturn, 1) := by decide +kernel
set_option maxRecDepth 20000 in
theorem e_Desk_sign_0 {d : Nat} {σ : PH} {K : PO → PH → Prop} (x0 : Nat) (x1 : Int32) (x2 : Int32) (h : PW d M_Desk_needWithin 0 [.int x1, .int 0, .int 7] [] σ (kV (fun σ1 => PW d M_Desk_needWithin 0 [.int x2, .int 0, .int 31] [] σ1 (kV (fun σ2 => sh σ2 x0 = (1, 0) ∧ (∃ b1 : Nat, gR σ2 0 x0 = some b1 ∧ (∃ n1 : Nat, sh σ2 b1 = (6, n1) ∧ vp_in x1 n1 ∧ (∃ b2 : Nat, eR σ2 b1 (ix x1) = some b2 ∧ sh σ2 b2 = (1, 1) ∧ (if (gI σ2 64 b2) = 0 then K (.inl (some (.int ((-1))))) σ2 else (∃ b3 : Nat, gR σ2 65 b2 = some b3 ∧ sh σ2 b3 = (1, 2) ∧ PW d M_Intake_takesEnd 0 [.ref b3, .int x2, uu] [] σ2 (kI (fun r1 σ3 => (if r1 = 0 then K (.inl (some (.int 0))) σ3 else sh σ3 x0 = (1, 0) ∧ PW d M_Desk_handIn 0 [.ref x0, .ref b2, uu, uu, uu] [] σ3 (kI (fun r2 σ4 => sh σ4 b2 = (1, 1) ∧ (∃ b4 : Nat, gR σ4 65 b2 = some b4 ∧ sh σ4 b4 = (1, 2) ∧ PW d M_Intake_begin 0 [.ref b4] [] σ4 (kV (fun σ5 => K (.inl (some (.int r2))) σ5) K))) K))) K))))))) K)) K)) : PW (d + 1) M_Desk_sign 0 [.ref x0, .int x1, .int x2, uu, uu] [] σ K := by
  refine pw_iload_n dc_Desk_sign_0 rfl ?_
  refine pw_iconst (v := 0) dc_Desk_sign_1 (by decide) ?_
  refine pw_bipush (v := 7) dc_Desk_sign_2 (by decide) ?_
  refine pw_callS (vs := [.int x1, .int 0, .int 7]) (st := []) dc_Desk_sign_4 cq_Desk_needWithin (List.mem_of_getElem? (i := 402) (by decide +kernel)) (List.mem_of_getElem? (i := 401) (by decide +kernel)) rfl rfl (cat_cons rfl (cat_cons rfl (cat_cons rfl (cat_nil)))) (Nat.le_of_ble_eq_true rfl) (PW.mono (kV_kN (fun σ1 h => ?_)) h)
  refine pw_iload_n dc_Desk_sign_7 rfl ?_
  refine pw_iconst (v := 0) dc_Desk_sign_8 (by decide) ?_
  refine pw_bipush (v := 31) dc_Desk_sign_9 (by decide) ?_
  refine pw_callS (vs := [.int x2, .int 0, .int 31]) (st := []) dc_Desk_sign_11 cq_Desk_needWithin (List.mem_of_getElem? (i := 402) (by decide +kernel)) (List.mem_of_getElem? (i := 401) (by decide +kernel)) rfl rfl (cat_cons rfl (cat_cons rfl (cat_cons rfl (cat_nil)))) (Nat.le_of_ble_eq_true rfl) (PW.mono (kV_kN (fun σ2 h => ?_)) h)
  refine pw_aload_n dc_Desk_sign_14 rfl rfl ?_
  obtain ⟨hs1, h⟩ := h
  refine pw_getR (c := 0) (k := 0) (f := 0) dc_Desk_sign_15 fl_Desk_11 rfl rfl hs1 ?_
  obtain ⟨b1, hb1, h⟩ := h
  refine PW.top (v' := .ref b1) (congrArg va_rf hb1) ?_
  refine pw_iload_n dc_Desk_sign_18 rfl ?_
  obtain ⟨n1, hs2, h⟩ := h
  obtain ⟨hi1, h⟩ := h
  refine pw_aald (k := 6) dc_Desk_sign_19 (by unfold rk; decide) hs2 hi1 ?_
  obtain ⟨b2, hb2, h⟩ := h
  refine PW.top (v' := .ref b2) (congrArg va_rf hb2) ?_
  refine pw_astore_n dc_Desk_sign_20 (by decide) rfl ?_
  refine pw_aload_n dc_Desk_sign_21 rfl rfl ?_
  obtain ⟨hs3, h⟩ := h
  refine pw_getI (c := 1) (k := 0) (f := 64) dc_Desk_sign_22 fl_Desk_50 rfl rfl hs3 ?_
  refine pw_if_ne (tgt := 30) dc_Desk_sign_25 (by decide) (fun hc => ?_) (fun hc => ?_)
  · have h := ite_f h hc
    refine pw_aload_n dc_Desk_sign_30 rfl rfl ?_
    refine pw_getR (c := 1) (k := 1) (f := 65) dc_Desk_sign_31 fl_Desk_54 rfl rfl hs3 ?_
    obtain ⟨b3, hb3, h⟩ := h
    refine PW.top (v' := .ref b3) (congrArg va_rf hb3) ?_
    refine pw_iload_n dc_Desk_sign_34 rfl ?_
    obtain ⟨hs4, h⟩ := h
    refine pw_callV (vs := [.int x2]) (st := []) (b := b3) (cn := 2) dc_Desk_sign_35 cq_Intake_takesEnd (List.mem_of_getElem? (i := 467) (by decide +kernel)) (List.mem_of_getElem? (i := 468) (by decide +kernel)) (List.mem_of_getElem? (i := 466) (by decide +kernel)) rfl hs4 rfl rfl (by decide) (cat_cons rfl (cat_nil)) (Nat.le_of_ble_eq_true rfl) (PW.mono (kI_kN (fun r1 σ3 h => ?_)) h)
    refine pw_if_ne (tgt := 43) dc_Desk_sign_38 (by decide) (fun hc => ?_) (fun hc => ?_)
    · have h := ite_f h hc
      refine pw_aload_n dc_Desk_sign_43 rfl rfl ?_
      refine pw_aload_n dc_Desk_sign_44 rfl rfl ?_
      obtain ⟨hs5, h⟩ := h
      refine pw_callV (vs := [.ref b2]) (st := []) (b := x0) (cn := 0) dc_Desk_sign_45 cq_Desk_handIn (List.mem_of_getElem? (i := 535) (by decide +kernel)) (List.mem_of_getElem? (i := 3) (by decide +kernel)) (List.mem_of_getElem? (i := 533) (by decide +kernel)) rfl hs5 rfl rfl (by decide) (cat_cons rfl (cat_nil)) (Nat.le_of_ble_eq_true rfl) (PW.mono (kI_kN (fun r2 σ4 h => ?_)) h)
      refine pw_istore dc_Desk_sign_48 (by decide) ?_
      refine pw_aload_n dc_Desk_sign_50 rfl rfl ?_
      obtain ⟨hs6, h⟩ := h
      refine pw_getR (c := 1) (k := 1) (f := 65) dc_Desk_sign_51 fl_Desk_54 rfl rfl hs6 ?_
      obtain ⟨b4, hb4, h⟩ := h
      refine PW.top (v' := .ref b4) (congrArg va_rf hb4) ?_
      obtain ⟨hs7, h⟩ := h
      refine pw_callV (vs := []) (st := []) (b := b4) (cn := 2) dc_Desk_sign_54 cq_Intake_begin (List.mem_of_getElem? (i := 370) (by decide +kernel)) (List.mem_of_getElem? (i := 371) (by decide +kernel)) (List.mem_of_getElem? (i := 685) (by decide +kernel)) rfl hs7 rfl rfl (by decide) (cat_nil) (Nat.le_of_ble_eq_true rfl) (PW.mono (kV_kN (fun σ5 h => ?_)) h)
      refine pw_iload dc_Desk_sign_57 rfl ?_
      exact pw_iret dc_Desk_sign_59 rfl rfl h
    · have h := ite_t h hc
      refine pw_iconst (v := 0) dc_Desk_sign_41 (by decide) ?_
      exact pw_iret dc_Desk_sign_42 rfl rfl h
  · have h := ite_t h hc
    refine pw_iconst (v := (-1)) dc_Desk_sign_28 (by decide) ?_
    exact pw_iret dc_Desk_sign_29 rfl rfl h
theorem dc_Desk_receipt_0 : decode M_Desk_receipt.2.1 0 = .ok (.iload_n 1, 1) := by decide +kernel
theorem dc_Desk_receipt_1 : decode M_Desk_receipt.2.1 1 = .ok (.iconst 0, 1) := by decide +kernel
theorem dc_Desk_receipt_2 : decode M_Desk_receipt.2.1 2 = .ok (.bipush 7, 2) := by decide +kernel
theorem dc_Desk_receipt_4 : decode M_Desk_receipt.2.1 4 = .ok (.invokestatic 46, 3) := by decide +kernel
theorem dc_Desk_receipt_7 : decode M_Desk_receipt.2.1 7 = .ok (.aload_n 0, 1) := by decide +kernel
theorem dc_Desk_receipt_8 : decode M_Desk_receipt.2.1 8 = .ok (.getfield 11, 3) := by decide +kernel
theorem dc_Desk_receipt_11 : decode M_Desk_receipt.2.1 11 = .ok (.iload_n 1, 1) := by decide +kernel
theorem dc_Desk_receipt_12 : decode M_Desk_receipt.2.1 12 = .ok (.aaload, 1) := by decide +kernel
theorem dc_Desk_receipt_13 : decode M_Desk_receipt.2.1 13 = .ok (.getfield 71, 3) := by decide +kernel
theorem dc_Desk_receipt_16 : decode M_Desk_receipt.2.1 16 = .ok (.getfield 75, 3) := by decide +kernel
theorem dc_Desk_receipt_19 : decode M_Desk_receipt.2.1 19 = .ok (.ireturn, 1) := by decide +kernel
set_option maxRecDepth 20000 in
theorem e_Desk_receipt_0 {d : Nat} {σ : PH} {K : PO → PH → Prop} (x0 : Nat) (x1 : Int32) (h : PW d M_Desk_needWithin 0 [.int x1, .int 0, .int 7] [] σ (kV (fun σ1 => sh σ1 x0 = (1, 0) ∧ (∃ b1 : Nat, gR σ1 0 x0 = some b1 ∧ (∃ n1 : Nat, sh σ1 b1 = (6, n1) ∧ vp_in x1 n1 ∧ (∃ b2 : Nat, eR σ1 b1 (ix x1) = some b2 ∧ sh σ1 b2 = (1, 1) ∧ (∃ b3 : Nat, gR σ1 66 b2 = some b3 ∧ sh σ1 b3 = (1, 4) ∧ K (.inl (some (.int (gI σ1 256 b3)))) σ1))))) K)) : PW (d + 1) M_Desk_receipt 0 [.ref x0, .int x1] [] σ K := by
  refine pw_iload_n dc_Desk_receipt_0 rfl ?_
  refine pw_iconst (v := 0) dc_Desk_receipt_1 (by decide) ?_
  refine pw_bipush (v := 7) dc_Desk_receipt_2 (by decide) ?_
  refine pw_callS (vs := [.int x1, .int 0, .int 7]) (st := []) dc_Desk_receipt_4 cq_Desk_needWithin (List.mem_of_getElem? (i := 402) (by decide +kernel)) (List.mem_of_getElem? (i := 401) (by decide +kernel)) rfl rfl (cat_cons rfl (cat_cons rfl (cat_cons rfl (cat_nil)))) (Nat.le_of_ble_eq_true rfl) (PW.mono (kV_kN (fun σ1 h => ?_)) h)
  refine pw_aload_n dc_Desk_receipt_7 rfl rfl ?_
  obtain ⟨hs1, h⟩ := h
  refine pw_getR (c := 0) (k := 0) (f := 0) dc_Desk_receipt_8 fl_Desk_11 rfl rfl hs1 ?_
  obtain ⟨b1, hb1, h⟩ := h
  refine PW.top (v' := .ref b1) (congrArg va_rf hb1) ?_
  refine pw_iload_n dc_Desk_receipt_11 rfl ?_
  obtain ⟨n1, hs2, h⟩ := h
  obtain ⟨hi1, h⟩ := h
  refine pw_aald (k := 6) dc_Desk_receipt_12 (by unfold rk; decide) hs2 hi1 ?_
  obtain ⟨b2, hb2, h⟩ := h
  refine PW.top (v' := .ref b2) (congrArg va_rf hb2) ?_
  obtain ⟨hs3, h⟩ := h
  refine pw_getR (c := 1) (k := 2) (f := 66) dc_Desk_receipt_13 fl_Desk_71 rfl rfl hs3 ?_
  obtain ⟨b3, hb3, h⟩ := h
  refine PW.top (v' := .ref b3) (congrArg va_rf hb3) ?_
  obtain ⟨hs4, h⟩ := h
  refine pw_getI (c := 4) (k := 0) (f := 256) dc_Desk_receipt_16 fl_Desk_75 rfl rfl hs4 ?_
  exact pw_iret dc_Desk_receipt_19 rfl rfl h
theorem dc_Desk_askFor_0 : decode M_Desk_askFor.2.1 0 = .ok (.iload_n 1, 1) := by decide +kernel
theorem dc_Desk_askFor_1 : decode M_Desk_askFor.2.1 1 = .ok (.iconst 0, 1) := by decide +kernel
theorem dc_Desk_askFor_2 : decode M_Desk_askFor.2.1 2 = .ok (.bipush 7, 2) := by decide +kernel
theorem dc_Desk_askFor_4 : decode M_Desk_askFor.2.1 4 = .ok (.invokestatic 46, 3) := by decide +kernel
theorem dc_Desk_askFor_7 : decode M_Desk_askFor.2.1 7 = .ok (.aload_n 0, 1) := by decide +kernel
theorem dc_Desk_askFor_8 : decode M_Desk_askFor.2.1 8 = .ok (.getfield 11, 3) := by decide +kernel
theorem dc_Desk_askFor_11 : decode M_Desk_askFor.2.1 11 = .ok (.iload_n 1, 1) := by decide +kernel
theorem dc_Desk_askFor_12 : decode M_Desk_askFor.2.1 12 = .ok (.aaload, 1) := by decide +kernel
theorem dc_Desk_askFor_13 : decode M_Desk_askFor.2.1 13 = .ok (.getfield 71, 3) := by decide +kernel
theorem dc_Desk_askFor_16 : decode M_Desk_askFor.2.1 16 = .ok (.invokevirtual 81, 3) := by decide +kernel
theorem dc_Desk_askFor_19 : decode M_Desk_askFor.2.1 19 = .ok (.ireturn, 1) := by decide +kernel
set_option maxRecDepth 20000 in
theorem e_Desk_askFor_0 {d : Nat} {σ : PH} {K : PO → PH → Prop} (x0 : Nat) (x1 : Int32) (h : PW d M_Desk_needWithin 0 [.int x1, .int 0, .int 7] [] σ (kV (fun σ1 => sh σ1 x0 = (1, 0) ∧ (∃ b1 : Nat, gR σ1 0 x0 = some b1 ∧ (∃ n1 : Nat, sh σ1 b1 = (6, n1) ∧ vp_in x1 n1 ∧ (∃ b2 : Nat, eR σ1 b1 (ix x1) = some b2 ∧ sh σ1 b2 = (1, 1) ∧ (∃ b3 : Nat, gR σ1 66 b2 = some b3 ∧ sh σ1 b3 = (1, 4) ∧ PW d M_Numbers_firstMissing 0 [.ref b3] [] σ1 (kI (fun r1 σ2 => K (.inl (some (.int r1))) σ2) K)))))) K)) : PW (d + 1) M_Desk_askFor 0 [.ref x0, .int x1] [] σ K := by
  refine pw_iload_n dc_Desk_askFor_0 rfl ?_
  refine pw_iconst (v := 0) dc_Desk_askFor_1 (by decide) ?_
  refine pw_bipush (v := 7) dc_Desk_askFor_2 (by decide) ?_
  refine pw_callS (vs := [.int x1, .int 0, .int 7]) (st := []) dc_Desk_askFor_4 cq_Desk_needWithin (List.mem_of_getElem? (i := 402) (by decide +kernel)) (List.mem_of_getElem? (i := 401) (by decide +kernel)) rfl rfl (cat_cons rfl (cat_cons rfl (cat_cons rfl (cat_nil)))) (Nat.le_of_ble_eq_true rfl) (PW.mono (kV_kN (fun σ1 h => ?_)) h)
  refine pw_aload_n dc_Desk_askFor_7 rfl rfl ?_
  obtain ⟨hs1, h⟩ := h
  refine pw_getR (c := 0) (k := 0) (f := 0) dc_Desk_askFor_8 fl_Desk_11 rfl rfl hs1 ?_
  obtain ⟨b1, hb1, h⟩ := h
  refine PW.top (v' := .ref b1) (congrArg va_rf hb1) ?_
  refine pw_iload_n dc_Desk_askFor_11 rfl ?_
  obtain ⟨n1, hs2, h⟩ := h
  obtain ⟨hi1, h⟩ := h
  refine pw_aald (k := 6) dc_Desk_askFor_12 (by unfold rk; decide) hs2 hi1 ?_
  obtain ⟨b2, hb2, h⟩ := h
  refine PW.top (v' := .ref b2) (congrArg va_rf hb2) ?_
  obtain ⟨hs3, h⟩ := h
  refine pw_getR (c := 1) (k := 2) (f := 66) dc_Desk_askFor_13 fl_Desk_71 rfl rfl hs3 ?_
  obtain ⟨b3, hb3, h⟩ := h
  refine PW.top (v' := .ref b3) (congrArg va_rf hb3) ?_
  obtain ⟨hs4, h⟩ := h
  refine pw_callV (vs := []) (st := []) (b := b3) (cn := 4) dc_Desk_askFor_16 cq_Numbers_firstMissing (List.mem_of_getElem? (i := 702) (by decide +kernel)) (List.mem_of_getElem? (i := 703) (by decide +kernel)) (List.mem_of_getElem? (i := 701) (by decide +kernel)) rfl hs4 rfl rfl (by decide) (cat_nil) (Nat.le_of_ble_eq_true rfl) (PW.mono (kI_kN (fun r1 σ2 h => ?_)) h)
  exact pw_iret dc_Desk_askFor_19 rfl rfl h
theorem dc_Desk_route_0 : decode M_Desk_route.2.1 0 = .ok (.iload_n 1, 1) := by decide +kernel
theorem dc_Desk_route_1 : decode M_Desk_route.2.1 1 = .ok (.iconst 0, 1) := by decide +kernel
theorem dc_Desk_route_2 : decode M_Desk_route.2.1 2 = .ok (.ldc 85, 2) := by decide +kernel
theorem dc_Desk_route_4 : decode M_Desk_route.2.1 4 = .ok (.invokestatic 46, 3) := by decide +kernel
theorem dc_Desk_route_7 : decode M_Desk_route.2.1 7 = .ok (.iload_n 2, 1) := by decide +kernel
theorem dc_Desk_route_8 : decode M_Desk_route.2.1 8 = .ok (.iconst 0, 1) := by decide +kernel
theorem dc_Desk_route_9 : decode M_Desk_route.2.1 9 = .ok (.bipush 7, 2) := by decide +kernel
theorem dc_Desk_route_11 : decode M_Desk_route.2.1 11 = .ok (.invokestatic 46, 3) := by decide +kernel
theorem dc_Desk_route_14 : decode M_Desk_route.2.1 14 = .ok (.iload_n 3, 1) := by decide +kernel
theorem dc_Desk_route_15 : decode M_Desk_route.2.1 15 = .ok (.iconst 0, 1) := by decide +kernel
theorem dc_Desk_route_16 : decode M_Desk_route.2.1 16 = .ok (.bipush 7, 2) := by decide +kernel
theorem dc_Desk_route_18 : decode M_Desk_route.2.1 18 = .ok (.invokestatic 46, 3) := by decide +kernel
theorem dc_Desk_route_21 : decode M_Desk_route.2.1 21 = .ok (.aload_n 0, 1) := by decide +kernel
theorem dc_Desk_route_22 : decode M_Desk_route.2.1 22 = .ok (.getfield 30, 3) := by decide +kernel
theorem dc_Desk_route_25 : decode M_Desk_route.2.1 25 = .ok (.iload_n 1, 1) := by decide +kernel
theorem dc_Desk_route_26 : decode M_Desk_route.2.1 26 = .ok (.invokevirtual 86, 3) := by decide +kernel
theorem dc_Desk_route_29 : decode M_Desk_route.2.1 29 = .ok (.istore 4, 2) := by decide +kernel
theorem dc_Desk_route_31 : decode M_Desk_route.2.1 31 = .ok (.iload 4, 2) := by decide +kernel
theorem dc_Desk_route_33 : decode M_Desk_route.2.1 33 = .ok (.iconst (-1), 1) := by decide +kernel
theorem dc_Desk_route_34 : decode M_Desk_route.2.1 34 = .ok (.if_icmp .eq 27, 3) := by decide +kernel
theorem dc_Desk_route_37 : decode M_Desk_route.2.1 37 = .ok (.aload_n 0, 1) := by decide +kernel
theorem dc_Desk_route_38 : decode M_Desk_route.2.1 38 = .ok (.getfield 30, 3) := by decide +kernel
theorem dc_Desk_route_41 : decode M_Desk_route.2.1 41 = .ok (.getfield 90, 3) := by decide +kernel
theorem dc_Desk_route_44 : decode M_Desk_route.2.1 44 = .ok (.iload 4, 2) := by decide +kernel
theorem dc_Desk_route_46 : decode M_Desk_route.2.1 46 = .ok (.aaload, 1) := by decide +kernel
theorem dc_Desk_route_47 : decode M_Desk_route.2.1 47 = .ok (.invokevirtual 94, 3) := by decide +kernel
theorem dc_Desk_route_50 : decode M_Desk_route.2.1 50 = .ok (.ifCond .eq 11, 3) := by decide +kernel
theorem dc_Desk_route_53 : decode M_Desk_route.2.1 53 = .ok (.new 100, 3) := by decide +kernel
theorem dc_Desk_route_56 : decode M_Desk_route.2.1 56 = .ok (.dup, 1) := by decide +kernel
theorem dc_Desk_route_57 : decode M_Desk_route.2.1 57 = .ok (.invokespecial 102, 3) := by decide +kernel
theorem dc_Desk_route_60 : decode M_Desk_route.2.1 60 = .ok (.athrow, 1) := by decide +kernel
theorem dc_Desk_route_61 : decode M_Desk_route.2.1 61 = .ok (.iload 4, 2) := by decide +kernel
theorem dc_Desk_route_63 : decode M_Desk_route.2.1 63 = .ok (.iconst (-1), 1) := by decide +kernel
theorem dc_Desk_route_64 : decode M_Desk_route.2.1 64 = .ok (.if_icmp .ne 21, 3) := by decide +kernel
theorem dc_Desk_route_67 : decode M_Desk_route.2.1 67 = .ok (.aload_n 0, 1) := by decide +kernel
theorem dc_Desk_route_68 : decode M_Desk_route.2.1 68 = .ok (.getfield 30, 3) := by decide +kernel
theorem dc_Desk_route_71 : decode M_Desk_route.2.1 71 = .ok (.invokevirtual 103, 3) := by decide +kernel
theorem dc_Desk_route_74 : decode M_Desk_route.2.1 74 = .ok (.ifCond .eq 11, 3) := by decide +kernel
theorem dc_Desk_route_77 : decode M_Desk_route.2.1 77 = .ok (.new 106, 3) := by decide +kernel
theorem dc_Desk_route_80 : decode M_Desk_route.2.1 80 = .ok (.dup, 1) := by decide +kernel
theorem dc_Desk_route_81 : decode M_Desk_route.2.1 81 = .ok (.invokespecial 108, 3) := by decide +kernel
theorem dc_Desk_route_84 : decode M_Desk_route.2.1 84 = .ok (.athrow, 1) := by decide +kernel
theorem dc_Desk_route_85 : decode M_Desk_route.2.1 85 = .ok (.aload_n 0, 1) := by decide +kernel
theorem dc_Desk_route_86 : decode M_Desk_route.2.1 86 = .ok (.getfield 30, 3) := by decide +kernel
theorem dc_Desk_route_89 : decode M_Desk_route.2.1 89 = .ok (.getfield 90, 3) := by decide +kernel
theorem dc_Desk_route_92 : decode M_Desk_route.2.1 92 = .ok (.iload 4, 2) := by decide +kernel
theorem dc_Desk_route_94 : decode M_Desk_route.2.1 94 = .ok (.iconst (-1), 1) := by decide +kernel
theorem dc_Desk_route_95 : decode M_Desk_route.2.1 95 = .ok (.if_icmp .ne 14, 3) := by decide +kernel
theorem dc_Desk_route_98 : decode M_Desk_route.2.1 98 = .ok (.aload_n 0, 1) := by decide +kernel
theorem dc_Desk_route_99 : decode M_Desk_route.2.1 99 = .ok (.getfield 30, 3) := by decide +kernel
theorem dc_Desk_route_102 : decode M_Desk_route.2.1 102 = .ok (.iload_n 1, 1) := by decide +kernel
theorem dc_Desk_route_103 : decode M_Desk_route.2.1 103 = .ok (.invokevirtual 109, 3) := by decide +kernel
theorem dc_Desk_route_106 : decode M_Desk_route.2.1 106 = .ok (.goto 5, 3) := by decide +kernel
theorem dc_Desk_route_109 : decode M_Desk_route.2.1 109 = .ok (.iload 4, 2) := by decide +kernel
theorem dc_Desk_route_111 : decode M_Desk_route.2.1 111 = .ok (.aaload, 1) := by decide +kernel
theorem dc_Desk_route_112 : decode M_Desk_route.2.1 112 = .ok (.astore 5, 2) := by decide +kernel
theorem dc_Desk_route_114 : decode M_Desk_route.2.1 114 = .ok (.aload 5, 2) := by decide +kernel
theorem dc_Desk_route_116 : decode M_Desk_route.2.1 116 = .ok (.iload_n 2, 1) := by decide +kernel
theorem dc_Desk_route_117 : decode M_Desk_route.2.1 117 = .ok (.putfield 112, 3) := by decide +kernel
theorem dc_Desk_route_120 : decode M_Desk_route.2.1 120 = .ok (.aload 5, 2) := by decide +kernel
theorem dc_Desk_route_122 : decode M_Desk_route.2.1 122 = .ok (.iload_n 3, 1) := by decide +kernel
theorem dc_Desk_route_123 : decode M_Desk_route.2.1 123 = .ok (.putfield 115, 3) := by decide +kernel
theorem dc_Desk_route_126 : decode M_Desk_route.2.1 126 = .ok (.return_, 1) := by decide +kernel
set_option maxRecDepth 20000 in
theorem e_Desk_route_0 {d : Nat} {σ : PH} {K : PO → PH → Prop} (x0 : Nat) (x1 : Int32) (x2 : Int32) (x3 : Int32) (h : PW (d + 6) M_Desk_needWithin 0 [.int x1, .int 0, .int 456975] [] σ (kV (fun σ1 => PW (d + 6) M_Desk_needWithin 0 [.int x2, .int 0, .int 7] [] σ1 (kV (fun σ2 => PW (d + 6) M_Desk_needWithin 0 [.int x3, .int 0, .int 7] [] σ2 (kV (fun σ3 => sh σ3 x0 = (1, 0) ∧ (∃ b1 : Nat, gR σ3 3 x0 = some b1 ∧ sh σ3 b1 = (1, 9) ∧ PW (d + 6) M_Routes_rowOf 0 [.ref b1, .int x1, uu] [] σ3 (kI (fun r1 σ4 => (if r1 = (-1) then PW (d + 7) M_Desk_route 61 [.ref x0, .int x1, .int x2, .int x3, .int r1, uu] [] σ4 K else sh σ4 x0 = (1, 0) ∧ (∃ b2 : Nat, gR σ4 3 x0 = some b2 ∧ sh σ4 b2 = (1, 9) ∧ (∃ b3 : Nat, gR σ4 576 b2 = some b3 ∧ (∃ n1 : Nat, sh σ4 b3 = (9, n1) ∧ vp_in r1 n1 ∧ (∃ b4 : Nat, eR σ4 b3 (ix r1) = some b4 ∧ sh σ4 b4 = (1, 8) ∧ PW (d + 6) M_Route_isGroup 0 [.ref b4] [] σ4 (kI (fun r2 σ5 => (if r2 = 0 then PW (d + 7) M_Desk_route 61 [.ref x0, .int x1, .int x2, .int x3, .int r1, uu] [] σ5 K else cc σ5 + 1 ≤ 601024 ∧ cs σ5 + 6 ≤ 7293034 ∧ K (.inr 0) (bump σ5 1 6))) K))))))) K))) K)) K)) K)) : PW (d + 7) M_Desk_route 0 [.ref x0, .int x1, .int x2, .int x3, uu, uu] [] σ K := by
  refine pw_iload_n dc_Desk_route_0 rfl ?_
  refine pw_iconst (v := 0) dc_Desk_route_1 (by decide) ?_
  refine pw_ldc (v := 456975) dc_Desk_route_2 (List.mem_of_getElem? (i := 713) (by decide +kernel)) ?_
  refine pw_callS (vs := [.int x1, .int 0, .int 456975]) (st := []) dc_Desk_route_4 cq_Desk_needWithin (List.mem_of_getElem? (i := 402) (by decide +kernel)) (List.mem_of_getElem? (i := 401) (by decide +kernel)) rfl rfl (cat_cons rfl (cat_cons rfl (cat_cons rfl (cat_nil)))) (Nat.le_of_ble_eq_true rfl) (PW.mono (kV_kN (fun σ1 h => ?_)) h)
  refine pw_iload_n dc_Desk_route_7 rfl ?_
  refine pw_iconst (v := 0) dc_Desk_route_8 (by decide) ?_
  refine pw_bipush (v := 7) dc_Desk_route_9 (by decide) ?_
  refine pw_callS (vs := [.int x2, .int 0, .int 7]) (st := []) dc_Desk_route_11 cq_Desk_needWithin (List.mem_of_getElem? (i := 402) (by decide +kernel)) (List.mem_of_getElem? (i := 401) (by decide +kernel)) rfl rfl (cat_cons rfl (cat_cons rfl (cat_cons rfl (cat_nil)))) (Nat.le_of_ble_eq_true rfl) (PW.mono (kV_kN (fun σ2 h => ?_)) h)
  refine pw_iload_n dc_Desk_route_14 rfl ?_
  refine pw_iconst (v := 0) dc_Desk_route_15 (by decide) ?_
  refine pw_bipush (v := 7) dc_Desk_route_16 (by decide) ?_
  refine pw_callS (vs := [.int x3, .int 0, .int 7]) (st := []) dc_Desk_route_18 cq_Desk_needWithin (List.mem_of_getElem? (i := 402) (by decide +kernel)) (List.mem_of_getElem? (i := 401) (by decide +kernel)) rfl rfl (cat_cons rfl (cat_cons rfl (cat_cons rfl (cat_nil)))) (Nat.le_of_ble_eq_true rfl) (PW.mono (kV_kN (fun σ3 h => ?_)) h)
  refine pw_aload_n dc_Desk_route_21 rfl rfl ?_
  obtain ⟨hs1, h⟩ := h
  refine pw_getR (c := 0) (k := 3) (f := 3) dc_Desk_route_22 fl_Desk_30 rfl rfl hs1 ?_
  obtain ⟨b1, hb1, h⟩ := h
  refine PW.top (v' := .ref b1) (congrArg va_rf hb1) ?_
  refine pw_iload_n dc_Desk_route_25 rfl ?_
  obtain ⟨hs2, h⟩ := h
  refine pw_callV (vs := [.int x1]) (st := []) (b := b1) (cn := 9) dc_Desk_route_26 cq_Routes_rowOf (List.mem_of_getElem? (i := 640) (by decide +kernel)) (List.mem_of_getElem? (i := 641) (by decide +kernel)) (List.mem_of_getElem? (i := 714) (by decide +kernel)) rfl hs2 rfl rfl (by decide) (cat_cons rfl (cat_nil)) (Nat.le_of_ble_eq_true rfl) (PW.mono (kI_kN (fun r1 σ4 h => ?_)) h)
  refine pw_istore dc_Desk_route_29 (by decide) ?_
  refine pw_iload dc_Desk_route_31 rfl ?_
  refine pw_iconst (v := (-1)) dc_Desk_route_33 (by decide) ?_
  refine pw_icmp_eq (tgt := 61) dc_Desk_route_34 (by decide) (fun hc => ?_) (fun hc => ?_)
  · have h := ite_t h hc
    exact h
  · have h := ite_f h hc
    refine pw_aload_n dc_Desk_route_37 rfl rfl ?_
    obtain ⟨hs3, h⟩ := h
    refine pw_getR (c := 0) (k := 3) (f := 3) dc_Desk_route_38 fl_Desk_30 rfl rfl hs3 ?_
    obtain ⟨b2, hb2, h⟩ := h
    refine PW.top (v' := .ref b2) (congrArg va_rf hb2) ?_
    obtain ⟨hs4, h⟩ := h
    refine pw_getR (c := 9) (k := 0) (f := 576) dc_Desk_route_41 fl_Desk_90 rfl rfl hs4 ?_
    obtain ⟨b3, hb3, h⟩ := h
    refine PW.top (v' := .ref b3) (congrArg va_rf hb3) ?_
    refine pw_iload dc_Desk_route_44 rfl ?_
    obtain ⟨n1, hs5, h⟩ := h
    obtain ⟨hi1, h⟩ := h
    refine pw_aald (k := 9) dc_Desk_route_46 (by unfold rk; decide) hs5 hi1 ?_
    obtain ⟨b4, hb4, h⟩ := h
    refine PW.top (v' := .ref b4) (congrArg va_rf hb4) ?_
    obtain ⟨hs6, h⟩ := h
    refine pw_callV (vs := []) (st := []) (b := b4) (cn := 8) dc_Desk_route_47 cq_Route_isGroup (List.mem_of_getElem? (i := 675) (by decide +kernel)) (List.mem_of_getElem? (i := 676) (by decide +kernel)) (List.mem_of_getElem? (i := 674) (by decide +kernel)) rfl hs6 rfl rfl (by decide) (cat_nil) (Nat.le_of_ble_eq_true rfl) (PW.mono (kI_kN (fun r2 σ5 h => ?_)) h)
    refine pw_if_eq (tgt := 61) dc_Desk_route_50 (by decide) (fun hc => ?_) (fun hc => ?_)
    · have h := ite_t h hc
      exact h
    · have h := ite_f h hc
      obtain ⟨hr1, hr2, h⟩ := h
      exact pw_throw (kd := 0) dc_Desk_route_53 dc_Desk_route_56 dc_Desk_route_57 dc_Desk_route_60 (by decide) (List.mem_of_getElem? (i := 404) (by decide +kernel)) ex_tbl0 rfl hr1 hr2 (Nat.le_of_ble_eq_true rfl) h
set_option maxRecDepth 20000 in
theorem e_Desk_route_61 {d : Nat} {σ : PH} {K : PO → PH → Prop} (x0 : Nat) (x1 : Int32) (x2 : Int32) (x3 : Int32) (x4 : Int32) (h : (if x4 = (-1) then sh σ x0 = (1, 0) ∧ (∃ b1 : Nat, gR σ 3 x0 = some b1 ∧ sh σ b1 = (1, 9) ∧ PW (d + 6) M_Routes_isFull 0 [.ref b1] [] σ (kI (fun r1 σ1 => (if r1 = 0 then PW (d + 7) M_Desk_route 85 [.ref x0, .int x1, .int x2, .int x3, .int x4, uu] [] σ1 K else cc σ1 + 1 ≤ 601024 ∧ cs σ1 + 6 ≤ 7293034 ∧ K (.inr 1) (bump σ1 1 6))) K)) else PW (d + 7) M_Desk_route 85 [.ref x0, .int x1, .int x2, .int x3, .int x4, uu] [] σ K)) : PW (d + 7) M_Desk_route 61 [.ref x0, .int x1, .int x2, .int x3, .int x4, uu] [] σ K := by
  refine pw_iload dc_Desk_route_61 rfl ?_
  refine pw_iconst (v := (-1)) dc_Desk_route_63 (by decide) ?_
  refine pw_icmp_ne (tgt := 85) dc_Desk_route_64 (by decide) (fun hc => ?_) (fun hc => ?_)
  · have h := ite_f h hc
    exact h
  · have h := ite_t h hc
    refine pw_aload_n dc_Desk_route_67 rfl rfl ?_
    obtain ⟨hs1, h⟩ := h
    refine pw_getR (c := 0) (k := 3) (f := 3) dc_Desk_route_68 fl_Desk_30 rfl rfl hs1 ?_
    obtain ⟨b1, hb1, h⟩ := h
    refine PW.top (v' := .ref b1) (congrArg va_rf hb1) ?_
    obtain ⟨hs2, h⟩ := h
    refine pw_callV (vs := []) (st := []) (b := b1) (cn := 9) dc_Desk_route_71 cq_Routes_isFull (List.mem_of_getElem? (i := 716) (by decide +kernel)) (List.mem_of_getElem? (i := 717) (by decide +kernel)) (List.mem_of_getElem? (i := 715) (by decide +kernel)) rfl hs2 rfl rfl (by decide) (cat_nil) (Nat.le_of_ble_eq_true rfl) (PW.mono (kI_kN (fun r1 σ1 h => ?_)) h)
    refine pw_if_eq (tgt := 85) dc_Desk_route_74 (by decide) (fun hc => ?_) (fun hc => ?_)
    · have h := ite_t h hc
      exact h
    · have h := ite_f h hc
      obtain ⟨hr1, hr2, h⟩ := h
      exact pw_throw (kd := 1) dc_Desk_route_77 dc_Desk_route_80 dc_Desk_route_81 dc_Desk_route_84 (by decide) (List.mem_of_getElem? (i := 719) (by decide +kernel)) ex_tbl1 rfl hr1 hr2 (Nat.le_of_ble_eq_true rfl) h
set_option maxRecDepth 20000 in
theorem e_Desk_route_85 {d : Nat} {σ : PH} {K : PO → PH → Prop} (x0 : Nat) (x1 : Int32) (x2 : Int32) (x3 : Int32) (x4 : Int32) (h : sh σ x0 = (1, 0) ∧ (∃ b1 : Nat, gR σ 3 x0 = some b1 ∧ sh σ b1 = (1, 9) ∧ (∃ b2 : Nat, gR σ 576 b1 = some b2 ∧ (if x4 = (-1) then PW (d + 6) M_Routes_newRow 0 [.ref b1, .int x1, uu] [] σ (kI (fun r1 σ3 => (∃ n2 : Nat, sh σ3 b2 = (9, n2) ∧ vp_in r1 n2 ∧ (∃ b4 : Nat, eR σ3 b2 (ix r1) = some b4 ∧ sh σ3 b4 = (1, 8) ∧ (∀ σ4 : PH, σ4 = pI σ3 513 b4 x2 → sh σ4 b4 = (1, 8) ∧ (∀ σ5 : PH, σ5 = pI σ4 514 b4 x3 → K (.inl none) σ5))))) K) else (∃ n1 : Nat, sh σ b2 = (9, n1) ∧ vp_in x4 n1 ∧ (∃ b3 : Nat, eR σ b2 (ix x4) = some b3 ∧ sh σ b3 = (1, 8) ∧ (∀ σ1 : PH, σ1 = pI σ 513 b3 x2 → sh σ1 b3 = (1, 8) ∧ (∀ σ2 : PH, σ2 = pI σ1 514 b3 x3 → K (.inl none) σ2)))))))) : PW (d + 7) M_Desk_route 85 [.ref x0, .int x1, .int x2, .int x3, .int x4, uu] [] σ K := by
  refine pw_aload_n dc_Desk_route_85 rfl rfl ?_
  obtain ⟨hs1, h⟩ := h
  refine pw_getR (c := 0) (k := 3) (f := 3) dc_Desk_route_86 fl_Desk_30 rfl rfl hs1 ?_
  obtain ⟨b1, hb1, h⟩ := h
  refine PW.top (v' := .ref b1) (congrArg va_rf hb1) ?_
  obtain ⟨hs2, h⟩ := h
  refine pw_getR (c := 9) (k := 0) (f := 576) dc_Desk_route_89 fl_Desk_90 rfl rfl hs2 ?_
  obtain ⟨b2, hb2, h⟩ := h
  refine PW.top (v' := .ref b2) (congrArg va_rf hb2) ?_
  refine pw_iload dc_Desk_route_92 rfl ?_
  refine pw_iconst (v := (-1)) dc_Desk_route_94 (by decide) ?_
  refine pw_icmp_ne (tgt := 109) dc_Desk_route_95 (by decide) (fun hc => ?_) (fun hc => ?_)
  · have h := ite_f h hc
    refine pw_iload dc_Desk_route_109 rfl ?_
    obtain ⟨n1, hs3, h⟩ := h
    obtain ⟨hi1, h⟩ := h
    refine pw_aald (k := 9) dc_Desk_route_111 (by unfold rk; decide) hs3 hi1 ?_
    obtain ⟨b3, hb3, h⟩ := h
    refine PW.top (v' := .ref b3) (congrArg va_rf hb3) ?_
    refine pw_astore dc_Desk_route_112 (by decide) rfl ?_
    refine pw_aload dc_Desk_route_114 rfl rfl ?_
    refine pw_iload_n dc_Desk_route_116 rfl ?_
    obtain ⟨hs4, h⟩ := h
    have h := h _ rfl
    refine pw_putI (c := 8) (k := 1) (f := 513) dc_Desk_route_117 fl_Desk_112 (Or.inl rfl) rfl rfl hs4 ?_
    refine pw_aload dc_Desk_route_120 rfl rfl ?_
    refine pw_iload_n dc_Desk_route_122 rfl ?_
    obtain ⟨hs5, h⟩ := h
    have h := h _ rfl
    refine pw_putI (c := 8) (k := 2) (f := 514) dc_Desk_route_123 fl_Desk_115 (Or.inl rfl) rfl rfl hs5 ?_
    exact pw_vret dc_Desk_route_126 rfl h
  · have h := ite_t h hc
    refine pw_aload_n dc_Desk_route_98 rfl rfl ?_
    refine pw_getR (c := 0) (k := 3) (f := 3) dc_Desk_route_99 fl_Desk_30 rfl rfl hs1 ?_
    refine PW.top (v' := .ref b1) (congrArg va_rf hb1) ?_
    refine pw_iload_n dc_Desk_route_102 rfl ?_
    refine pw_callV (vs := [.int x1]) (st := [.ref b2]) (b := b1) (cn := 9) dc_Desk_route_103 cq_Routes_newRow (List.mem_of_getElem? (i := 735) (by decide +kernel)) (List.mem_of_getElem? (i := 736) (by decide +kernel)) (List.mem_of_getElem? (i := 734) (by decide +kernel)) rfl hs2 rfl rfl (by decide) (cat_cons rfl (cat_nil)) (Nat.le_of_ble_eq_true rfl) (PW.mono (kI_kN (fun r1 σ3 h => ?_)) h)
    refine pw_goto (tgt := 111) dc_Desk_route_106 (by decide) ?_
    obtain ⟨n2, hs6, h⟩ := h
    obtain ⟨hi2, h⟩ := h
    refine pw_aald (k := 9) dc_Desk_route_111 (by unfold rk; decide) hs6 hi2 ?_
    obtain ⟨b4, hb4, h⟩ := h
    refine PW.top (v' := .ref b4) (congrArg va_rf hb4) ?_
    refine pw_astore dc_Desk_route_112 (by decide) rfl ?_
    refine pw_aload dc_Desk_route_114 rfl rfl ?_
    refine pw_iload_n dc_Desk_route_116 rfl ?_
    obtain ⟨hs7, h⟩ := h
    have h := h _ rfl
    refine pw_putI (c := 8) (k := 1) (f := 513) dc_Desk_route_117 fl_Desk_112 (Or.inl rfl) rfl rfl hs7 ?_
    refine pw_aload dc_Desk_route_120 rfl rfl ?_
    refine pw_iload_n dc_Desk_route_122 rfl ?_
    obtain ⟨hs8, h⟩ := h
    have h := h _ rfl
    refine pw_putI (c := 8) (k := 2) (f := 514) dc_Desk_route_123 fl_Desk_115 (Or.inl rfl) rfl rfl hs8 ?_
    exact pw_vret dc_Desk_route_126 rfl h
theorem dc_Desk_group_0 : decode M_Desk_group.2.1 0 = .ok (.iload_n 1, 1) := by decide +kernel
theorem dc_Desk_group_1 : decode M_Desk_group.2.1 1 = .ok (.iconst 0, 1) := by decide +kernel
theorem dc_Desk_group_2 : decode M_Desk_group.2.1 2 = .ok (.ldc 85, 2) := by decide +kernel
theorem dc_Desk_group_4 : decode M_Desk_group.2.1 4 = .ok (.invokestatic 46, 3) := by decide +kernel
theorem dc_Desk_group_7 : decode M_Desk_group.2.1 7 = .ok (.iload_n 2, 1) := by decide +kernel
theorem dc_Desk_group_8 : decode M_Desk_group.2.1 8 = .ok (.iconst 0, 1) := by decide +kernel
theorem dc_Desk_group_9 : decode M_Desk_group.2.1 9 = .ok (.ldc 85, 2) := by decide +kernel
theorem dc_Desk_group_11 : decode M_Desk_group.2.1 11 = .ok (.invokestatic 46, 3) := by decide +kernel
theorem dc_Desk_group_14 : decode M_Desk_group.2.1 14 = .ok (.iload_n 1, 1) := by decide +kernel
theorem dc_Desk_group_15 : decode M_Desk_group.2.1 15 = .ok (.iload_n 2, 1) := by decide +kernel
theorem dc_Desk_group_16 : decode M_Desk_group.2.1 16 = .ok (.if_icmp .eq 15, 3) := by decide +kernel
theorem dc_Desk_group_19 : decode M_Desk_group.2.1 19 = .ok (.aload_n 0, 1) := by decide +kernel
theorem dc_Desk_group_20 : decode M_Desk_group.2.1 20 = .ok (.getfield 30, 3) := by decide +kernel
theorem dc_Desk_group_23 : decode M_Desk_group.2.1 23 = .ok (.iload_n 2, 1) := by decide +kernel
theorem dc_Desk_group_24 : decode M_Desk_group.2.1 24 = .ok (.iload_n 1, 1) := by decide +kernel
theorem dc_Desk_group_25 : decode M_Desk_group.2.1 25 = .ok (.invokevirtual 118, 3) := by decide +kernel
theorem dc_Desk_group_28 : decode M_Desk_group.2.1 28 = .ok (.ifCond .eq 11, 3) := by decide +kernel
theorem dc_Desk_group_31 : decode M_Desk_group.2.1 31 = .ok (.new 100, 3) := by decide +kernel
theorem dc_Desk_group_34 : decode M_Desk_group.2.1 34 = .ok (.dup, 1) := by decide +kernel
theorem dc_Desk_group_35 : decode M_Desk_group.2.1 35 = .ok (.invokespecial 102, 3) := by decide +kernel
theorem dc_Desk_group_38 : decode M_Desk_group.2.1 38 = .ok (.athrow, 1) := by decide +kernel
theorem dc_Desk_group_39 : decode M_Desk_group.2.1 39 = .ok (.aload_n 0, 1) := by decide +kernel
theorem dc_Desk_group_40 : decode M_Desk_group.2.1 40 = .ok (.getfield 30, 3) := by decide +kernel
theorem dc_Desk_group_43 : decode M_Desk_group.2.1 43 = .ok (.iload_n 1, 1) := by decide +kernel
theorem dc_Desk_group_44 : decode M_Desk_group.2.1 44 = .ok (.invokevirtual 86, 3) := by decide +kernel
theorem dc_Desk_group_47 : decode M_Desk_group.2.1 47 = .ok (.istore_n 3, 1) := by decide +kernel
theorem dc_Desk_group_48 : decode M_Desk_group.2.1 48 = .ok (.iload_n 3, 1) := by decide +kernel
theorem dc_Desk_group_49 : decode M_Desk_group.2.1 49 = .ok (.iconst (-1), 1) := by decide +kernel
theorem dc_Desk_group_50 : decode M_Desk_group.2.1 50 = .ok (.if_icmp .eq 42, 3) := by decide +kernel
theorem dc_Desk_group_53 : decode M_Desk_group.2.1 53 = .ok (.aload_n 0, 1) := by decide +kernel
theorem dc_Desk_group_54 : decode M_Desk_group.2.1 54 = .ok (.getfield 30, 3) := by decide +kernel
theorem dc_Desk_group_57 : decode M_Desk_group.2.1 57 = .ok (.getfield 90, 3) := by decide +kernel
theorem dc_Desk_group_60 : decode M_Desk_group.2.1 60 = .ok (.iload_n 3, 1) := by decide +kernel
theorem dc_Desk_group_61 : decode M_Desk_group.2.1 61 = .ok (.aaload, 1) := by decide +kernel
theorem dc_Desk_group_62 : decode M_Desk_group.2.1 62 = .ok (.invokevirtual 94, 3) := by decide +kernel
theorem dc_Desk_group_65 : decode M_Desk_group.2.1 65 = .ok (.ifCond .eq 19, 3) := by decide +kernel
theorem dc_Desk_group_68 : decode M_Desk_group.2.1 68 = .ok (.aload_n 0, 1) := by decide +kernel
theorem dc_Desk_group_69 : decode M_Desk_group.2.1 69 = .ok (.getfield 30, 3) := by decide +kernel
theorem dc_Desk_group_72 : decode M_Desk_group.2.1 72 = .ok (.getfield 90, 3) := by decide +kernel
theorem dc_Desk_group_75 : decode M_Desk_group.2.1 75 = .ok (.iload_n 3, 1) := by decide +kernel
theorem dc_Desk_group_76 : decode M_Desk_group.2.1 76 = .ok (.aaload, 1) := by decide +kernel
theorem dc_Desk_group_77 : decode M_Desk_group.2.1 77 = .ok (.iload_n 2, 1) := by decide +kernel
theorem dc_Desk_group_78 : decode M_Desk_group.2.1 78 = .ok (.invokevirtual 122, 3) := by decide +kernel
theorem dc_Desk_group_81 : decode M_Desk_group.2.1 81 = .ok (.ifCond .eq 11, 3) := by decide +kernel
theorem dc_Desk_group_84 : decode M_Desk_group.2.1 84 = .ok (.new 100, 3) := by decide +kernel
theorem dc_Desk_group_87 : decode M_Desk_group.2.1 87 = .ok (.dup, 1) := by decide +kernel
theorem dc_Desk_group_88 : decode M_Desk_group.2.1 88 = .ok (.invokespecial 102, 3) := by decide +kernel
theorem dc_Desk_group_91 : decode M_Desk_group.2.1 91 = .ok (.athrow, 1) := by decide +kernel
theorem dc_Desk_group_92 : decode M_Desk_group.2.1 92 = .ok (.iload_n 3, 1) := by decide +kernel
theorem dc_Desk_group_93 : decode M_Desk_group.2.1 93 = .ok (.iconst (-1), 1) := by decide +kernel
theorem dc_Desk_group_94 : decode M_Desk_group.2.1 94 = .ok (.if_icmp .ne 16, 3) := by decide +kernel
theorem dc_Desk_group_97 : decode M_Desk_group.2.1 97 = .ok (.aload_n 0, 1) := by decide +kernel
theorem dc_Desk_group_98 : decode M_Desk_group.2.1 98 = .ok (.getfield 30, 3) := by decide +kernel
theorem dc_Desk_group_101 : decode M_Desk_group.2.1 101 = .ok (.invokevirtual 103, 3) := by decide +kernel
theorem dc_Desk_group_104 : decode M_Desk_group.2.1 104 = .ok (.ifCond .eq 30, 3) := by decide +kernel
theorem dc_Desk_group_107 : decode M_Desk_group.2.1 107 = .ok (.goto 19, 3) := by decide +kernel
theorem dc_Desk_group_110 : decode M_Desk_group.2.1 110 = .ok (.aload_n 0, 1) := by decide +kernel
theorem dc_Desk_group_111 : decode M_Desk_group.2.1 111 = .ok (.getfield 30, 3) := by decide +kernel
theorem dc_Desk_group_114 : decode M_Desk_group.2.1 114 = .ok (.getfield 90, 3) := by decide +kernel
theorem dc_Desk_group_117 : decode M_Desk_group.2.1 117 = .ok (.iload_n 3, 1) := by decide +kernel
theorem dc_Desk_group_118 : decode M_Desk_group.2.1 118 = .ok (.aaload, 1) := by decide +kernel
theorem dc_Desk_group_119 : decode M_Desk_group.2.1 119 = .ok (.getfield 125, 3) := by decide +kernel
theorem dc_Desk_group_122 : decode M_Desk_group.2.1 122 = .ok (.iconst 4, 1) := by decide +kernel
theorem dc_Desk_group_123 : decode M_Desk_group.2.1 123 = .ok (.if_icmp .lt 11, 3) := by decide +kernel
theorem dc_Desk_group_126 : decode M_Desk_group.2.1 126 = .ok (.new 106, 3) := by decide +kernel
theorem dc_Desk_group_129 : decode M_Desk_group.2.1 129 = .ok (.dup, 1) := by decide +kernel
theorem dc_Desk_group_130 : decode M_Desk_group.2.1 130 = .ok (.invokespecial 108, 3) := by decide +kernel
theorem dc_Desk_group_133 : decode M_Desk_group.2.1 133 = .ok (.athrow, 1) := by decide +kernel
theorem dc_Desk_group_134 : decode M_Desk_group.2.1 134 = .ok (.aload_n 0, 1) := by decide +kernel
theorem dc_Desk_group_135 : decode M_Desk_group.2.1 135 = .ok (.getfield 30, 3) := by decide +kernel
theorem dc_Desk_group_138 : decode M_Desk_group.2.1 138 = .ok (.getfield 90, 3) := by decide +kernel
theorem dc_Desk_group_141 : decode M_Desk_group.2.1 141 = .ok (.iload_n 3, 1) := by decide +kernel
theorem dc_Desk_group_142 : decode M_Desk_group.2.1 142 = .ok (.iconst (-1), 1) := by decide +kernel
theorem dc_Desk_group_143 : decode M_Desk_group.2.1 143 = .ok (.if_icmp .ne 14, 3) := by decide +kernel
theorem dc_Desk_group_146 : decode M_Desk_group.2.1 146 = .ok (.aload_n 0, 1) := by decide +kernel
theorem dc_Desk_group_147 : decode M_Desk_group.2.1 147 = .ok (.getfield 30, 3) := by decide +kernel
theorem dc_Desk_group_150 : decode M_Desk_group.2.1 150 = .ok (.iload_n 1, 1) := by decide +kernel
theorem dc_Desk_group_151 : decode M_Desk_group.2.1 151 = .ok (.invokevirtual 109, 3) := by decide +kernel
theorem dc_Desk_group_154 : decode M_Desk_group.2.1 154 = .ok (.goto 4, 3) := by decide +kernel
theorem dc_Desk_group_157 : decode M_Desk_group.2.1 157 = .ok (.iload_n 3, 1) := by decide +kernel
theorem dc_Desk_group_158 : decode M_Desk_group.2.1 158 = .ok (.aaload, 1) := by decide +kernel
theorem dc_Desk_group_159 : decode M_Desk_group.2.1 159 = .ok (.iload_n 2, 1) := by decide +kernel
theorem dc_Desk_group_160 : decode M_Desk_group.2.1 160 = .ok (.invokevirtual 128, 3) := by decide +kernel
theorem dc_Desk_group_163 : decode M_Desk_group.2.1 163 = .ok (.ireturn, 1) := by decide +kernel
set_option maxRecDepth 20000 in
theorem e_Desk_group_0 {d : Nat} {σ : PH} {K : PO → PH → Prop} (x0 : Nat) (x1 : Int32) (x2 : Int32) (h : PW (d + 6) M_Desk_needWithin 0 [.int x1, .int 0, .int 456975] [] σ (kV (fun σ1 => PW (d + 6) M_Desk_needWithin 0 [.int x2, .int 0, .int 456975] [] σ1 (kV (fun σ2 => (if x1 = x2 then cc σ2 + 1 ≤ 601024 ∧ cs σ2 + 6 ≤ 7293034 ∧ K (.inr 0) (bump σ2 1 6) else sh σ2 x0 = (1, 0) ∧ (∃ b1 : Nat, gR σ2 3 x0 = some b1 ∧ sh σ2 b1 = (1, 9) ∧ PW (d + 6) M_Routes_leadsTo 0 [.ref b1, .int x2, .int x1, uu, uu] [] σ2 (kI (fun r1 σ3 => (if r1 = 0 then sh σ3 x0 = (1, 0) ∧ (∃ b2 : Nat, gR σ3 3 x0 = some b2 ∧ sh σ3 b2 = (1, 9) ∧ PW (d + 6) M_Routes_rowOf 0 [.ref b2, .int x1, uu] [] σ3 (kI (fun r2 σ4 => (if r2 = (-1) then PW (d + 7) M_Desk_group 92 [.ref x0, .int x1, .int x2, .int r2] [] σ4 K else sh σ4 x0 = (1, 0) ∧ (∃ b3 : Nat, gR σ4 3 x0 = some b3 ∧ sh σ4 b3 = (1, 9) ∧ (∃ b4 : Nat, gR σ4 576 b3 = some b4 ∧ (∃ n1 : Nat, sh σ4 b4 = (9, n1) ∧ vp_in r2 n1 ∧ (∃ b5 : Nat, eR σ4 b4 (ix r2) = some b5 ∧ sh σ4 b5 = (1, 8) ∧ PW (d + 6) M_Route_isGroup 0 [.ref b5] [] σ4 (kI (fun r3 σ5 => (if r3 = 0 then cc σ5 + 1 ≤ 601024 ∧ cs σ5 + 6 ≤ 7293034 ∧ K (.inr 0) (bump σ5 1 6) else sh σ5 x0 = (1, 0) ∧ (∃ b6 : Nat, gR σ5 3 x0 = some b6 ∧ sh σ5 b6 = (1, 9) ∧ (∃ b7 : Nat, gR σ5 576 b6 = some b7 ∧ (∃ n2 : Nat, sh σ5 b7 = (9, n2) ∧ vp_in r2 n2 ∧ (∃ b8 : Nat, eR σ5 b7 (ix r2) = some b8 ∧ sh σ5 b8 = (1, 8) ∧ PW (d + 6) M_Route_holds 0 [.ref b8, .int x2, uu] [] σ5 (kI (fun r4 σ6 => (if r4 = 0 then PW (d + 7) M_Desk_group 92 [.ref x0, .int x1, .int x2, .int r2] [] σ6 K else cc σ6 + 1 ≤ 601024 ∧ cs σ6 + 6 ≤ 7293034 ∧ K (.inr 0) (bump σ6 1 6))) K))))))) K))))))) K)) else cc σ3 + 1 ≤ 601024 ∧ cs σ3 + 6 ≤ 7293034 ∧ K (.inr 0) (bump σ3 1 6))) K)))) K)) K)) : PW (d + 7) M_Desk_group 0 [.ref x0, .int x1, .int x2, uu] [] σ K := by
  refine pw_iload_n dc_Desk_group_0 rfl ?_
  refine pw_iconst (v := 0) dc_Desk_group_1 (by decide) ?_
  refine pw_ldc (v := 456975) dc_Desk_group_2 (List.mem_of_getElem? (i := 713) (by decide +kernel)) ?_
  refine pw_callS (vs := [.int x1, .int 0, .int 456975]) (st := []) dc_Desk_group_4 cq_Desk_needWithin (List.mem_of_getElem? (i := 402) (by decide +kernel)) (List.mem_of_getElem? (i := 401) (by decide +kernel)) rfl rfl (cat_cons rfl (cat_cons rfl (cat_cons rfl (cat_nil)))) (Nat.le_of_ble_eq_true rfl) (PW.mono (kV_kN (fun σ1 h => ?_)) h)
  refine pw_iload_n dc_Desk_group_7 rfl ?_
  refine pw_iconst (v := 0) dc_Desk_group_8 (by decide) ?_
  refine pw_ldc (v := 456975) dc_Desk_group_9 (List.mem_of_getElem? (i := 713) (by decide +kernel)) ?_
  refine pw_callS (vs := [.int x2, .int 0, .int 456975]) (st := []) dc_Desk_group_11 cq_Desk_needWithin (List.mem_of_getElem? (i := 402) (by decide +kernel)) (List.mem_of_getElem? (i := 401) (by decide +kernel)) rfl rfl (cat_cons rfl (cat_cons rfl (cat_cons rfl (cat_nil)))) (Nat.le_of_ble_eq_true rfl) (PW.mono (kV_kN (fun σ2 h => ?_)) h)
  refine pw_iload_n dc_Desk_group_14 rfl ?_
  refine pw_iload_n dc_Desk_group_15 rfl ?_
  refine pw_icmp_eq (tgt := 31) dc_Desk_group_16 (by decide) (fun hc => ?_) (fun hc => ?_)
  · have h := ite_t h hc
    obtain ⟨hr1, hr2, h⟩ := h
    exact pw_throw (kd := 0) dc_Desk_group_31 dc_Desk_group_34 dc_Desk_group_35 dc_Desk_group_38 (by decide) (List.mem_of_getElem? (i := 404) (by decide +kernel)) ex_tbl0 rfl hr1 hr2 (Nat.le_of_ble_eq_true rfl) h
  · have h := ite_f h hc
    refine pw_aload_n dc_Desk_group_19 rfl rfl ?_
    obtain ⟨hs1, h⟩ := h
    refine pw_getR (c := 0) (k := 3) (f := 3) dc_Desk_group_20 fl_Desk_30 rfl rfl hs1 ?_
    obtain ⟨b1, hb1, h⟩ := h
    refine PW.top (v' := .ref b1) (congrArg va_rf hb1) ?_
    refine pw_iload_n dc_Desk_group_23 rfl ?_
    refine pw_iload_n dc_Desk_group_24 rfl ?_
    obtain ⟨hs2, h⟩ := h
    refine pw_callV (vs := [.int x2, .int x1]) (st := []) (b := b1) (cn := 9) dc_Desk_group_25 cq_Routes_leadsTo (List.mem_of_getElem? (i := 747) (by decide +kernel)) (List.mem_of_getElem? (i := 748) (by decide +kernel)) (List.mem_of_getElem? (i := 746) (by decide +kernel)) rfl hs2 rfl rfl (by decide) (cat_cons rfl (cat_cons rfl (cat_nil))) (Nat.le_of_ble_eq_true rfl) (PW.mono (kI_kN (fun r1 σ3 h => ?_)) h)
    refine pw_if_eq (tgt := 39) dc_Desk_group_28 (by decide) (fun hc => ?_) (fun hc => ?_)
    · have h := ite_t h hc
      refine pw_aload_n dc_Desk_group_39 rfl rfl ?_
      obtain ⟨hs3, h⟩ := h
      refine pw_getR (c := 0) (k := 3) (f := 3) dc_Desk_group_40 fl_Desk_30 rfl rfl hs3 ?_
      obtain ⟨b2, hb2, h⟩ := h
      refine PW.top (v' := .ref b2) (congrArg va_rf hb2) ?_
      refine pw_iload_n dc_Desk_group_43 rfl ?_
      obtain ⟨hs4, h⟩ := h
      refine pw_callV (vs := [.int x1]) (st := []) (b := b2) (cn := 9) dc_Desk_group_44 cq_Routes_rowOf (List.mem_of_getElem? (i := 640) (by decide +kernel)) (List.mem_of_getElem? (i := 641) (by decide +kernel)) (List.mem_of_getElem? (i := 714) (by decide +kernel)) rfl hs4 rfl rfl (by decide) (cat_cons rfl (cat_nil)) (Nat.le_of_ble_eq_true rfl) (PW.mono (kI_kN (fun r2 σ4 h => ?_)) h)
      refine pw_istore_n dc_Desk_group_47 (by decide) ?_
      refine pw_iload_n dc_Desk_group_48 rfl ?_
      refine pw_iconst (v := (-1)) dc_Desk_group_49 (by decide) ?_
      refine pw_icmp_eq (tgt := 92) dc_Desk_group_50 (by decide) (fun hc => ?_) (fun hc => ?_)
      · have h := ite_t h hc
        exact h
      · have h := ite_f h hc
        refine pw_aload_n dc_Desk_group_53 rfl rfl ?_
        obtain ⟨hs5, h⟩ := h
        refine pw_getR (c := 0) (k := 3) (f := 3) dc_Desk_group_54 fl_Desk_30 rfl rfl hs5 ?_
        obtain ⟨b3, hb3, h⟩ := h
        refine PW.top (v' := .ref b3) (congrArg va_rf hb3) ?_
        obtain ⟨hs6, h⟩ := h
        refine pw_getR (c := 9) (k := 0) (f := 576) dc_Desk_group_57 fl_Desk_90 rfl rfl hs6 ?_
        obtain ⟨b4, hb4, h⟩ := h
        refine PW.top (v' := .ref b4) (congrArg va_rf hb4) ?_
        refine pw_iload_n dc_Desk_group_60 rfl ?_
        obtain ⟨n1, hs7, h⟩ := h
        obtain ⟨hi1, h⟩ := h
        refine pw_aald (k := 9) dc_Desk_group_61 (by unfold rk; decide) hs7 hi1 ?_
        obtain ⟨b5, hb5, h⟩ := h
        refine PW.top (v' := .ref b5) (congrArg va_rf hb5) ?_
        obtain ⟨hs8, h⟩ := h
        refine pw_callV (vs := []) (st := []) (b := b5) (cn := 8) dc_Desk_group_62 cq_Route_isGroup (List.mem_of_getElem? (i := 675) (by decide +kernel)) (List.mem_of_getElem? (i := 676) (by decide +kernel)) (List.mem_of_getElem? (i := 674) (by decide +kernel)) rfl hs8 rfl rfl (by decide) (cat_nil) (Nat.le_of_ble_eq_true rfl) (PW.mono (kI_kN (fun r3 σ5 h => ?_)) h)
        refine pw_if_eq (tgt := 84) dc_Desk_group_65 (by decide) (fun hc => ?_) (fun hc => ?_)
        · have h := ite_t h hc
          obtain ⟨hr1, hr2, h⟩ := h
          exact pw_throw (kd := 0) dc_Desk_group_84 dc_Desk_group_87 dc_Desk_group_88 dc_Desk_group_91 (by decide) (List.mem_of_getElem? (i := 404) (by decide +kernel)) ex_tbl0 rfl hr1 hr2 (Nat.le_of_ble_eq_true rfl) h
        · have h := ite_f h hc
          refine pw_aload_n dc_Desk_group_68 rfl rfl ?_
          obtain ⟨hs9, h⟩ := h
          refine pw_getR (c := 0) (k := 3) (f := 3) dc_Desk_group_69 fl_Desk_30 rfl rfl hs9 ?_
          obtain ⟨b6, hb6, h⟩ := h
          refine PW.top (v' := .ref b6) (congrArg va_rf hb6) ?_
          obtain ⟨hs10, h⟩ := h
          refine pw_getR (c := 9) (k := 0) (f := 576) dc_Desk_group_72 fl_Desk_90 rfl rfl hs10 ?_
          obtain ⟨b7, hb7, h⟩ := h
          refine PW.top (v' := .ref b7) (congrArg va_rf hb7) ?_
          refine pw_iload_n dc_Desk_group_75 rfl ?_
          obtain ⟨n2, hs11, h⟩ := h
          obtain ⟨hi2, h⟩ := h
          refine pw_aald (k := 9) dc_Desk_group_76 (by unfold rk; decide) hs11 hi2 ?_
          obtain ⟨b8, hb8, h⟩ := h
          refine PW.top (v' := .ref b8) (congrArg va_rf hb8) ?_
          refine pw_iload_n dc_Desk_group_77 rfl ?_
          obtain ⟨hs12, h⟩ := h
          refine pw_callV (vs := [.int x2]) (st := []) (b := b8) (cn := 8) dc_Desk_group_78 cq_Route_holds (List.mem_of_getElem? (i := 751) (by decide +kernel)) (List.mem_of_getElem? (i := 752) (by decide +kernel)) (List.mem_of_getElem? (i := 754) (by decide +kernel)) rfl hs12 rfl rfl (by decide) (cat_cons rfl (cat_nil)) (Nat.le_of_ble_eq_true rfl) (PW.mono (kI_kN (fun r4 σ6 h => ?_)) h)
          refine pw_if_eq (tgt := 92) dc_Desk_group_81 (by decide) (fun hc => ?_) (fun hc => ?_)
          · have h := ite_t h hc
            exact h
          · have h := ite_f h hc
            obtain ⟨hr1, hr2, h⟩ := h
            exact pw_throw (kd := 0) dc_Desk_group_84 dc_Desk_group_87 dc_Desk_group_88 dc_Desk_group_91 (by decide) (List.mem_of_getElem? (i := 404) (by decide +kernel)) ex_tbl0 rfl hr1 hr2 (Nat.le_of_ble_eq_true rfl) h
    · have h := ite_f h hc
      obtain ⟨hr1, hr2, h⟩ := h
      exact pw_throw (kd := 0) dc_Desk_group_31 dc_Desk_group_34 dc_Desk_group_35 dc_Desk_group_38 (by decide) (List.mem_of_getElem? (i := 404) (by decide +kernel)) ex_tbl0 rfl hr1 hr2 (Nat.le_of_ble_eq_true rfl) h
set_option maxRecDepth 20000 in
theorem e_Desk_group_92 {d : Nat} {σ : PH} {K : PO → PH → Prop} (x0 : Nat) (x1 : Int32) (x2 : Int32) (x3 : Int32) (h : (if x3 = (-1) then sh σ x0 = (1, 0) ∧ (∃ b4 : Nat, gR σ 3 x0 = some b4 ∧ sh σ b4 = (1, 9) ∧ PW (d + 6) M_Routes_isFull 0 [.ref b4] [] σ (kI (fun r1 σ1 => (if r1 = 0 then PW (d + 7) M_Desk_group 134 [.ref x0, .int x1, .int x2, .int x3] [] σ1 K else cc σ1 + 1 ≤ 601024 ∧ cs σ1 + 6 ≤ 7293034 ∧ K (.inr 1) (bump σ1 1 6))) K)) else sh σ x0 = (1, 0) ∧ (∃ b1 : Nat, gR σ 3 x0 = some b1 ∧ sh σ b1 = (1, 9) ∧ (∃ b2 : Nat, gR σ 576 b1 = some b2 ∧ (∃ n1 : Nat, sh σ b2 = (9, n1) ∧ vp_in x3 n1 ∧ (∃ b3 : Nat, eR σ b2 (ix x3) = some b3 ∧ sh σ b3 = (1, 8) ∧ (if (gI σ 516 b3) < 4 then PW (d + 7) M_Desk_group 134 [.ref x0, .int x1, .int x2, .int x3] [] σ K else cc σ + 1 ≤ 601024 ∧ cs σ + 6 ≤ 7293034 ∧ K (.inr 1) (bump σ 1 6)))))))) : PW (d + 7) M_Desk_group 92 [.ref x0, .int x1, .int x2, .int x3] [] σ K := by
  refine pw_iload_n dc_Desk_group_92 rfl ?_
  refine pw_iconst (v := (-1)) dc_Desk_group_93 (by decide) ?_
  refine pw_icmp_ne (tgt := 110) dc_Desk_group_94 (by decide) (fun hc => ?_) (fun hc => ?_)
  · have h := ite_f h hc
    refine pw_aload_n dc_Desk_group_110 rfl rfl ?_
    obtain ⟨hs1, h⟩ := h
    refine pw_getR (c := 0) (k := 3) (f := 3) dc_Desk_group_111 fl_Desk_30 rfl rfl hs1 ?_
    obtain ⟨b1, hb1, h⟩ := h
    refine PW.top (v' := .ref b1) (congrArg va_rf hb1) ?_
    obtain ⟨hs2, h⟩ := h
    refine pw_getR (c := 9) (k := 0) (f := 576) dc_Desk_group_114 fl_Desk_90 rfl rfl hs2 ?_
    obtain ⟨b2, hb2, h⟩ := h
    refine PW.top (v' := .ref b2) (congrArg va_rf hb2) ?_
    refine pw_iload_n dc_Desk_group_117 rfl ?_
    obtain ⟨n1, hs3, h⟩ := h
    obtain ⟨hi1, h⟩ := h
    refine pw_aald (k := 9) dc_Desk_group_118 (by unfold rk; decide) hs3 hi1 ?_
    obtain ⟨b3, hb3, h⟩ := h
    refine PW.top (v' := .ref b3) (congrArg va_rf hb3) ?_
    obtain ⟨hs4, h⟩ := h
    refine pw_getI (c := 8) (k := 4) (f := 516) dc_Desk_group_119 fl_Desk_125 rfl rfl hs4 ?_
    refine pw_iconst (v := 4) dc_Desk_group_122 (by decide) ?_
    refine pw_icmp_lt (tgt := 134) dc_Desk_group_123 (by decide) (fun hc => ?_) (fun hc => ?_)
    · have h := ite_t h hc
      exact h
    · have h := ite_f h hc
      obtain ⟨hr1, hr2, h⟩ := h
      exact pw_throw (kd := 1) dc_Desk_group_126 dc_Desk_group_129 dc_Desk_group_130 dc_Desk_group_133 (by decide) (List.mem_of_getElem? (i := 719) (by decide +kernel)) ex_tbl1 rfl hr1 hr2 (Nat.le_of_ble_eq_true rfl) h
  · have h := ite_t h hc
    refine pw_aload_n dc_Desk_group_97 rfl rfl ?_
    obtain ⟨hs5, h⟩ := h
    refine pw_getR (c := 0) (k := 3) (f := 3) dc_Desk_group_98 fl_Desk_30 rfl rfl hs5 ?_
    obtain ⟨b4, hb4, h⟩ := h
    refine PW.top (v' := .ref b4) (congrArg va_rf hb4) ?_
    obtain ⟨hs6, h⟩ := h
    refine pw_callV (vs := []) (st := []) (b := b4) (cn := 9) dc_Desk_group_101 cq_Routes_isFull (List.mem_of_getElem? (i := 716) (by decide +kernel)) (List.mem_of_getElem? (i := 717) (by decide +kernel)) (List.mem_of_getElem? (i := 715) (by decide +kernel)) rfl hs6 rfl rfl (by decide) (cat_nil) (Nat.le_of_ble_eq_true rfl) (PW.mono (kI_kN (fun r1 σ1 h => ?_)) h)
    refine pw_if_eq (tgt := 134) dc_Desk_group_104 (by decide) (fun hc => ?_) (fun hc => ?_)
    · have h := ite_t h hc
      exact h
    · have h := ite_f h hc
      refine pw_goto (tgt := 126) dc_Desk_group_107 (by decide) ?_
      obtain ⟨hr1, hr2, h⟩ := h
      exact pw_throw (kd := 1) dc_Desk_group_126 dc_Desk_group_129 dc_Desk_group_130 dc_Desk_group_133 (by decide) (List.mem_of_getElem? (i := 719) (by decide +kernel)) ex_tbl1 rfl hr1 hr2 (Nat.le_of_ble_eq_true rfl) h
set_option maxRecDepth 20000 in
theorem e_Desk_group_134 {d : Nat} {σ : PH} {K : PO → PH → Prop} (x0 : Nat) (x1 : Int32) (x2 : Int32) (x3 : Int32) (h : sh σ x0 = (1, 0) ∧ (∃ b1 : Nat, gR σ 3 x0 = some b1 ∧ sh σ b1 = (1, 9) ∧ (∃ b2 : Nat, gR σ 576 b1 = some b2 ∧ (if x3 = (-1) then PW (d + 6) M_Routes_newRow 0 [.ref b1, .int x1, uu] [] σ (kI (fun r2 σ2 => (∃ n2 : Nat, sh σ2 b2 = (9, n2) ∧ vp_in r2 n2 ∧ (∃ b4 : Nat, eR σ2 b2 (ix r2) = some b4 ∧ sh σ2 b4 = (1, 8) ∧ PW (d + 6) M_Route_addMember 0 [.ref b4, .int x2] [] σ2 (kI (fun r3 σ3 => K (.inl (some (.int r3))) σ3) K)))) K) else (∃ n1 : Nat, sh σ b2 = (9, n1) ∧ vp_in x3 n1 ∧ (∃ b3 : Nat, eR σ b2 (ix x3) = some b3 ∧ sh σ b3 = (1, 8) ∧ PW (d + 6) M_Route_addMember 0 [.ref b3, .int x2] [] σ (kI (fun r1 σ1 => K (.inl (some (.int r1))) σ1) K))))))) : PW (d + 7) M_Desk_group 134 [.ref x0, .int x1, .int x2, .int x3] [] σ K := by
  refine pw_aload_n dc_Desk_group_134 rfl rfl ?_
  obtain ⟨hs1, h⟩ := h
  refine pw_getR (c := 0) (k := 3) (f := 3) dc_Desk_group_135 fl_Desk_30 rfl rfl hs1 ?_
  obtain ⟨b1, hb1, h⟩ := h
  refine PW.top (v' := .ref b1) (congrArg va_rf hb1) ?_
  obtain ⟨hs2, h⟩ := h
  refine pw_getR (c := 9) (k := 0) (f := 576) dc_Desk_group_138 fl_Desk_90 rfl rfl hs2 ?_
  obtain ⟨b2, hb2, h⟩ := h
  refine PW.top (v' := .ref b2) (congrArg va_rf hb2) ?_
  refine pw_iload_n dc_Desk_group_141 rfl ?_
  refine pw_iconst (v := (-1)) dc_Desk_group_142 (by decide) ?_
  refine pw_icmp_ne (tgt := 157) dc_Desk_group_143 (by decide) (fun hc => ?_) (fun hc => ?_)
  · have h := ite_f h hc
    refine pw_iload_n dc_Desk_group_157 rfl ?_
    obtain ⟨n1, hs3, h⟩ := h
    obtain ⟨hi1, h⟩ := h
    refine pw_aald (k := 9) dc_Desk_group_158 (by unfold rk; decide) hs3 hi1 ?_
    obtain ⟨b3, hb3, h⟩ := h
    refine PW.top (v' := .ref b3) (congrArg va_rf hb3) ?_
    refine pw_iload_n dc_Desk_group_159 rfl ?_
    obtain ⟨hs4, h⟩ := h
    refine pw_callV (vs := [.int x2]) (st := []) (b := b3) (cn := 8) dc_Desk_group_160 cq_Route_addMember (List.mem_of_getElem? (i := 756) (by decide +kernel)) (List.mem_of_getElem? (i := 757) (by decide +kernel)) (List.mem_of_getElem? (i := 755) (by decide +kernel)) rfl hs4 rfl rfl (by decide) (cat_cons rfl (cat_nil)) (Nat.le_of_ble_eq_true rfl) (PW.mono (kI_kN (fun r1 σ1 h => ?_)) h)
    exact pw_iret dc_Desk_group_163 rfl rfl h
  · have h := ite_t h hc
    refine pw_aload_n dc_Desk_group_146 rfl rfl ?_
    refine pw_getR (c := 0) (k := 3) (f := 3) dc_Desk_group_147 fl_Desk_30 rfl rfl hs1 ?_
    refine PW.top (v' := .ref b1) (congrArg va_rf hb1) ?_
    refine pw_iload_n dc_Desk_group_150 rfl ?_
    refine pw_callV (vs := [.int x1]) (st := [.ref b2]) (b := b1) (cn := 9) dc_Desk_group_151 cq_Routes_newRow (List.mem_of_getElem? (i := 735) (by decide +kernel)) (List.mem_of_getElem? (i := 736) (by decide +kernel)) (List.mem_of_getElem? (i := 734) (by decide +kernel)) rfl hs2 rfl rfl (by decide) (cat_cons rfl (cat_nil)) (Nat.le_of_ble_eq_true rfl) (PW.mono (kI_kN (fun r2 σ2 h => ?_)) h)
    refine pw_goto (tgt := 158) dc_Desk_group_154 (by decide) ?_
    obtain ⟨n2, hs5, h⟩ := h
    obtain ⟨hi2, h⟩ := h
    refine pw_aald (k := 9) dc_Desk_group_158 (by unfold rk; decide) hs5 hi2 ?_
    obtain ⟨b4, hb4, h⟩ := h
    refine PW.top (v' := .ref b4) (congrArg va_rf hb4) ?_
    refine pw_iload_n dc_Desk_group_159 rfl ?_
    obtain ⟨hs6, h⟩ := h
    refine pw_callV (vs := [.int x2]) (st := []) (b := b4) (cn := 8) dc_Desk_group_160 cq_Route_addMember (List.mem_of_getElem? (i := 756) (by decide +kernel)) (List.mem_of_getElem? (i := 757) (by decide +kernel)) (List.mem_of_getElem? (i := 755) (by decide +kernel)) rfl hs6 rfl rfl (by decide) (cat_cons rfl (cat_nil)) (Nat.le_of_ble_eq_true rfl) (PW.mono (kI_kN (fun r3 σ3 h => ?_)) h)
    exact pw_iret dc_Desk_group_163 rfl rfl h
theorem dc_Desk_open_0 : decode M_Desk_open.2.1 0 = .ok (.iload_n 1, 1) := by decide +kernel
theorem dc_Desk_open_1 : decode M_Desk_open.2.1 1 = .ok (.iconst 0, 1) := by decide +kernel
theorem dc_Desk_open_2 : decode M_Desk_open.2.1 2 = .ok (.bipush 7, 2) := by decide +kernel
theorem dc_Desk_open_4 : decode M_Desk_open.2.1 4 = .ok (.invokestatic 46, 3) := by decide +kernel
theorem dc_Desk_open_7 : decode M_Desk_open.2.1 7 = .ok (.aload_n 0, 1) := by decide +kernel
theorem dc_Desk_open_8 : decode M_Desk_open.2.1 8 = .ok (.getfield 11, 3) := by decide +kernel
theorem dc_Desk_open_11 : decode M_Desk_open.2.1 11 = .ok (.iload_n 1, 1) := by decide +kernel
theorem dc_Desk_open_12 : decode M_Desk_open.2.1 12 = .ok (.aaload, 1) := by decide +kernel
theorem dc_Desk_open_13 : decode M_Desk_open.2.1 13 = .ok (.astore_n 3, 1) := by decide +kernel
theorem dc_Desk_open_14 : decode M_Desk_open.2.1 14 = .ok (.aload_n 3, 1) := by decide +kernel
theorem dc_Desk_open_15 : decode M_Desk_open.2.1 15 = .ok (.getfield 50, 3) := by decide +kernel
theorem dc_Desk_open_18 : decode M_Desk_open.2.1 18 = .ok (.istore 4, 2) := by decide +kernel
theorem dc_Desk_open_20 : decode M_Desk_open.2.1 20 = .ok (.aload_n 3, 1) := by decide +kernel
theorem dc_Desk_open_21 : decode M_Desk_open.2.1 21 = .ok (.iload_n 2, 1) := by decide +kernel
theorem dc_Desk_open_22 : decode M_Desk_open.2.1 22 = .ok (.putfield 50, 3) := by decide +kernel
theorem dc_Desk_open_25 : decode M_Desk_open.2.1 25 = .ok (.iload_n 2, 1) := by decide +kernel
theorem dc_Desk_open_26 : decode M_Desk_open.2.1 26 = .ok (.ifCond .ne 14, 3) := by decide +kernel
theorem dc_Desk_open_29 : decode M_Desk_open.2.1 29 = .ok (.aload_n 3, 1) := by decide +kernel
theorem dc_Desk_open_30 : decode M_Desk_open.2.1 30 = .ok (.invokevirtual 131, 3) := by decide +kernel
theorem dc_Desk_open_33 : decode M_Desk_open.2.1 33 = .ok (.aload_n 3, 1) := by decide +kernel
theorem dc_Desk_open_34 : decode M_Desk_open.2.1 34 = .ok (.getfield 71, 3) := by decide +kernel
theorem dc_Desk_open_37 : decode M_Desk_open.2.1 37 = .ok (.invokevirtual 134, 3) := by decide +kernel
theorem dc_Desk_open_40 : decode M_Desk_open.2.1 40 = .ok (.iload 4, 2) := by decide +kernel
theorem dc_Desk_open_42 : decode M_Desk_open.2.1 42 = .ok (.ireturn, 1) := by decide +kernel
set_option maxRecDepth 20000 in
theorem e_Desk_open_0 {d : Nat} {σ : PH} {K : PO → PH → Prop} (x0 : Nat) (x1 : Int32) (x2 : Int32) (h : PW d M_Desk_needWithin 0 [.int x1, .int 0, .int 7] [] σ (kV (fun σ1 => sh σ1 x0 = (1, 0) ∧ (∃ b1 : Nat, gR σ1 0 x0 = some b1 ∧ (∃ n1 : Nat, sh σ1 b1 = (6, n1) ∧ vp_in x1 n1 ∧ (∃ b2 : Nat, eR σ1 b1 (ix x1) = some b2 ∧ sh σ1 b2 = (1, 1) ∧ bo x2 ∧ (∀ σ2 : PH, σ2 = pI σ1 64 b2 x2 → (if x2 = 0 then sh σ2 b2 = (1, 1) ∧ PW d M_Channel_loseWhatIsUnderWay 0 [.ref b2] [] σ2 (kV (fun σ3 => sh σ3 b2 = (1, 1) ∧ (∃ b3 : Nat, gR σ3 66 b2 = some b3 ∧ sh σ3 b3 = (1, 4) ∧ PW d M_Numbers_forgetMissing 0 [.ref b3] [] σ3 (kV (fun σ4 => bo (gI σ1 64 b2) ∧ K (.inl (some (.int (gI σ1 64 b2)))) σ4) K))) K) else bo (gI σ1 64 b2) ∧ K (.inl (some (.int (gI σ1 64 b2)))) σ2)))))) K)) : PW (d + 1) M_Desk_open 0 [.ref x0, .int x1, .int x2, uu, uu] [] σ K := by
  refine pw_iload_n dc_Desk_open_0 rfl ?_
  refine pw_iconst (v := 0) dc_Desk_open_1 (by decide) ?_
  refine pw_bipush (v := 7) dc_Desk_open_2 (by decide) ?_
  refine pw_callS (vs := [.int x1, .int 0, .int 7]) (st := []) dc_Desk_open_4 cq_Desk_needWithin (List.mem_of_getElem? (i := 402) (by decide +kernel)) (List.mem_of_getElem? (i := 401) (by decide +kernel)) rfl rfl (cat_cons rfl (cat_cons rfl (cat_cons rfl (cat_nil)))) (Nat.le_of_ble_eq_true rfl) (PW.mono (kV_kN (fun σ1 h => ?_)) h)
  refine pw_aload_n dc_Desk_open_7 rfl rfl ?_
  obtain ⟨hs1, h⟩ := h
  refine pw_getR (c := 0) (k := 0) (f := 0) dc_Desk_open_8 fl_Desk_11 rfl rfl hs1 ?_
  obtain ⟨b1, hb1, h⟩ := h
  refine PW.top (v' := .ref b1) (congrArg va_rf hb1) ?_
  refine pw_iload_n dc_Desk_open_11 rfl ?_
  obtain ⟨n1, hs2, h⟩ := h
  obtain ⟨hi1, h⟩ := h
  refine pw_aald (k := 6) dc_Desk_open_12 (by unfold rk; decide) hs2 hi1 ?_
  obtain ⟨b2, hb2, h⟩ := h
  refine PW.top (v' := .ref b2) (congrArg va_rf hb2) ?_
  refine pw_astore_n dc_Desk_open_13 (by decide) rfl ?_
  refine pw_aload_n dc_Desk_open_14 rfl rfl ?_
  obtain ⟨hs3, h⟩ := h
  refine pw_getI (c := 1) (k := 0) (f := 64) dc_Desk_open_15 fl_Desk_50 rfl rfl hs3 ?_
  refine pw_istore dc_Desk_open_18 (by decide) ?_
  refine pw_aload_n dc_Desk_open_20 rfl rfl ?_
  refine pw_iload_n dc_Desk_open_21 rfl ?_
  obtain ⟨hz1, h⟩ := h
  have h := h _ rfl
  refine pw_putZ (c := 1) (k := 0) (f := 64) dc_Desk_open_22 fl_Desk_50 (Or.inl rfl) rfl rfl hs3 hz1 ?_
  refine pw_iload_n dc_Desk_open_25 rfl ?_
  refine pw_if_ne (tgt := 40) dc_Desk_open_26 (by decide) (fun hc => ?_) (fun hc => ?_)
  · have h := ite_f h hc
    refine pw_iload dc_Desk_open_40 rfl ?_
    exact pw_iret dc_Desk_open_42 rfl (bo_nar h.1) h.2
  · have h := ite_t h hc
    refine pw_aload_n dc_Desk_open_29 rfl rfl ?_
    obtain ⟨hs4, h⟩ := h
    refine pw_callV (vs := []) (st := []) (b := b2) (cn := 1) dc_Desk_open_30 cq_Channel_loseWhatIsUnderWay (List.mem_of_getElem? (i := 366) (by decide +kernel)) (List.mem_of_getElem? (i := 367) (by decide +kernel)) (List.mem_of_getElem? (i := 365) (by decide +kernel)) rfl hs4 rfl rfl (by decide) (cat_nil) (Nat.le_of_ble_eq_true rfl) (PW.mono (kV_kN (fun σ3 h => ?_)) h)
    refine pw_aload_n dc_Desk_open_33 rfl rfl ?_
    obtain ⟨hs5, h⟩ := h
    refine pw_getR (c := 1) (k := 2) (f := 66) dc_Desk_open_34 fl_Desk_71 rfl rfl hs5 ?_
    obtain ⟨b3, hb3, h⟩ := h
    refine PW.top (v' := .ref b3) (congrArg va_rf hb3) ?_
    obtain ⟨hs6, h⟩ := h
    refine pw_callV (vs := []) (st := []) (b := b3) (cn := 4) dc_Desk_open_37 cq_Numbers_forgetMissing (List.mem_of_getElem? (i := 767) (by decide +kernel)) (List.mem_of_getElem? (i := 768) (by decide +kernel)) (List.mem_of_getElem? (i := 766) (by decide +kernel)) rfl hs6 rfl rfl (by decide) (cat_nil) (Nat.le_of_ble_eq_true rfl) (PW.mono (kV_kN (fun σ4 h => ?_)) h)
    refine pw_iload dc_Desk_open_40 rfl ?_
    exact pw_iret dc_Desk_open_42 rfl (bo_nar h.1) h.2
theorem dc_Desk_send_0 : decode M_Desk_send.2.1 0 = .ok (.iload_n 1, 1) := by decide +kernel
theorem dc_Desk_send_1 : decode M_Desk_send.2.1 1 = .ok (.iconst 0, 1) := by decide +kernel
theorem dc_Desk_send_2 : decode M_Desk_send.2.1 2 = .ok (.bipush 7, 2) := by decide +kernel
theorem dc_Desk_send_4 : decode M_Desk_send.2.1 4 = .ok (.invokestatic 46, 3) := by decide +kernel
theorem dc_Desk_send_7 : decode M_Desk_send.2.1 7 = .ok (.aload_n 0, 1) := by decide +kernel
theorem dc_Desk_send_8 : decode M_Desk_send.2.1 8 = .ok (.getfield 11, 3) := by decide +kernel
theorem dc_Desk_send_11 : decode M_Desk_send.2.1 11 = .ok (.iload_n 1, 1) := by decide +kernel
theorem dc_Desk_send_12 : decode M_Desk_send.2.1 12 = .ok (.aaload, 1) := by decide +kernel
theorem dc_Desk_send_13 : decode M_Desk_send.2.1 13 = .ok (.astore_n 2, 1) := by decide +kernel
theorem dc_Desk_send_14 : decode M_Desk_send.2.1 14 = .ok (.aload_n 2, 1) := by decide +kernel
theorem dc_Desk_send_15 : decode M_Desk_send.2.1 15 = .ok (.getfield 50, 3) := by decide +kernel
theorem dc_Desk_send_18 : decode M_Desk_send.2.1 18 = .ok (.ifCond .ne 5, 3) := by decide +kernel
theorem dc_Desk_send_21 : decode M_Desk_send.2.1 21 = .ok (.iconst (-1), 1) := by decide +kernel
theorem dc_Desk_send_22 : decode M_Desk_send.2.1 22 = .ok (.ireturn, 1) := by decide +kernel
theorem dc_Desk_send_23 : decode M_Desk_send.2.1 23 = .ok (.aload_n 2, 1) := by decide +kernel
theorem dc_Desk_send_24 : decode M_Desk_send.2.1 24 = .ok (.getfield 137, 3) := by decide +kernel
theorem dc_Desk_send_27 : decode M_Desk_send.2.1 27 = .ok (.invokevirtual 141, 3) := by decide +kernel
theorem dc_Desk_send_30 : decode M_Desk_send.2.1 30 = .ok (.ifCond .eq 25, 3) := by decide +kernel
theorem dc_Desk_send_33 : decode M_Desk_send.2.1 33 = .ok (.aload_n 2, 1) := by decide +kernel
theorem dc_Desk_send_34 : decode M_Desk_send.2.1 34 = .ok (.getfield 137, 3) := by decide +kernel
theorem dc_Desk_send_37 : decode M_Desk_send.2.1 37 = .ok (.invokevirtual 146, 3) := by decide +kernel
theorem dc_Desk_send_40 : decode M_Desk_send.2.1 40 = .ok (.ifCond .ne 15, 3) := by decide +kernel
theorem dc_Desk_send_43 : decode M_Desk_send.2.1 43 = .ok (.aload_n 2, 1) := by decide +kernel
theorem dc_Desk_send_44 : decode M_Desk_send.2.1 44 = .ok (.getfield 137, 3) := by decide +kernel
theorem dc_Desk_send_47 : decode M_Desk_send.2.1 47 = .ok (.aload_n 0, 1) := by decide +kernel
theorem dc_Desk_send_48 : decode M_Desk_send.2.1 48 = .ok (.iload_n 1, 1) := by decide +kernel
theorem dc_Desk_send_49 : decode M_Desk_send.2.1 49 = .ok (.invokevirtual 149, 3) := by decide +kernel
theorem dc_Desk_send_52 : decode M_Desk_send.2.1 52 = .ok (.invokevirtual 153, 3) := by decide +kernel
theorem dc_Desk_send_55 : decode M_Desk_send.2.1 55 = .ok (.aload_n 2, 1) := by decide +kernel
theorem dc_Desk_send_56 : decode M_Desk_send.2.1 56 = .ok (.getfield 137, 3) := by decide +kernel
theorem dc_Desk_send_59 : decode M_Desk_send.2.1 59 = .ok (.invokevirtual 157, 3) := by decide +kernel
theorem dc_Desk_send_62 : decode M_Desk_send.2.1 62 = .ok (.ireturn, 1) := by decide +kernel
set_option maxRecDepth 20000 in
theorem e_Desk_send_0 {d : Nat} {σ : PH} {K : PO → PH → Prop} (x0 : Nat) (x1 : Int32) (h : PW d M_Desk_needWithin 0 [.int x1, .int 0, .int 7] [] σ (kV (fun σ1 => sh σ1 x0 = (1, 0) ∧ (∃ b1 : Nat, gR σ1 0 x0 = some b1 ∧ (∃ n1 : Nat, sh σ1 b1 = (6, n1) ∧ vp_in x1 n1 ∧ (∃ b2 : Nat, eR σ1 b1 (ix x1) = some b2 ∧ sh σ1 b2 = (1, 1) ∧ (if (gI σ1 64 b2) = 0 then K (.inl (some (.int ((-1))))) σ1 else (∃ b3 : Nat, gR σ1 67 b2 = some b3 ∧ sh σ1 b3 = (1, 5) ∧ PW d M_Outlet_isIdle 0 [.ref b3] [] σ1 (kI (fun r1 σ2 => (if r1 = 0 then sh σ2 b2 = (1, 1) ∧ (∃ b4 : Nat, gR σ2 67 b2 = some b4 ∧ sh σ2 b4 = (1, 5) ∧ PW d M_Outlet_nextSign 0 [.ref b4, uu, uu] [] σ2 (kI (fun r2 σ3 => K (.inl (some (.int r2))) σ3) K)) else sh σ2 b2 = (1, 1) ∧ (∃ b5 : Nat, gR σ2 67 b2 = some b5 ∧ sh σ2 b5 = (1, 5) ∧ PW d M_Outlet_startsAsked 0 [.ref b5, uu, uu] [] σ2 (kI (fun r3 σ4 => (if r3 = 0 then sh σ4 b2 = (1, 1) ∧ (∃ b7 : Nat, gR σ4 67 b2 = some b7 ∧ sh σ4 x0 = (1, 0) ∧ PW d M_Desk_firstWaiting 0 [.ref x0, .int x1, uu, uu, uu] [] σ4 (kR (fun r5 σ6 => sh σ6 b7 = (1, 5) ∧ PW d M_Outlet_startEntry 0 [.ref b7, va_rf r5] [] σ6 (kV (fun σ7 => sh σ7 b2 = (1, 1) ∧ (∃ b8 : Nat, gR σ7 67 b2 = some b8 ∧ sh σ7 b8 = (1, 5) ∧ PW d M_Outlet_nextSign 0 [.ref b8, uu, uu] [] σ7 (kI (fun r6 σ8 => K (.inl (some (.int r6))) σ8) K))) K)) K)) else sh σ4 b2 = (1, 1) ∧ (∃ b6 : Nat, gR σ4 67 b2 = some b6 ∧ sh σ4 b6 = (1, 5) ∧ PW d M_Outlet_nextSign 0 [.ref b6, uu, uu] [] σ4 (kI (fun r4 σ5 => K (.inl (some (.int r4))) σ5) K)))) K)))) K))))))) K)) : PW (d + 1) M_Desk_send 0 [.ref x0, .int x1, uu] [] σ K := by
  refine pw_iload_n dc_Desk_send_0 rfl ?_
  refine pw_iconst (v := 0) dc_Desk_send_1 (by decide) ?_
  refine pw_bipush (v := 7) dc_Desk_send_2 (by decide) ?_
  refine pw_callS (vs := [.int x1, .int 0, .int 7]) (st := []) dc_Desk_send_4 cq_Desk_needWithin (List.mem_of_getElem? (i := 402) (by decide +kernel)) (List.mem_of_getElem? (i := 401) (by decide +kernel)) rfl rfl (cat_cons rfl (cat_cons rfl (cat_cons rfl (cat_nil)))) (Nat.le_of_ble_eq_true rfl) (PW.mono (kV_kN (fun σ1 h => ?_)) h)
  refine pw_aload_n dc_Desk_send_7 rfl rfl ?_
  obtain ⟨hs1, h⟩ := h
  refine pw_getR (c := 0) (k := 0) (f := 0) dc_Desk_send_8 fl_Desk_11 rfl rfl hs1 ?_
  obtain ⟨b1, hb1, h⟩ := h
  refine PW.top (v' := .ref b1) (congrArg va_rf hb1) ?_
  refine pw_iload_n dc_Desk_send_11 rfl ?_
  obtain ⟨n1, hs2, h⟩ := h
  obtain ⟨hi1, h⟩ := h
  refine pw_aald (k := 6) dc_Desk_send_12 (by unfold rk; decide) hs2 hi1 ?_
  obtain ⟨b2, hb2, h⟩ := h
  refine PW.top (v' := .ref b2) (congrArg va_rf hb2) ?_
  refine pw_astore_n dc_Desk_send_13 (by decide) rfl ?_
  refine pw_aload_n dc_Desk_send_14 rfl rfl ?_
  obtain ⟨hs3, h⟩ := h
  refine pw_getI (c := 1) (k := 0) (f := 64) dc_Desk_send_15 fl_Desk_50 rfl rfl hs3 ?_
  refine pw_if_ne (tgt := 23) dc_Desk_send_18 (by decide) (fun hc => ?_) (fun hc => ?_)
  · have h := ite_f h hc
    refine pw_aload_n dc_Desk_send_23 rfl rfl ?_
    refine pw_getR (c := 1) (k := 3) (f := 67) dc_Desk_send_24 fl_Desk_137 rfl rfl hs3 ?_
    obtain ⟨b3, hb3, h⟩ := h
    refine PW.top (v' := .ref b3) (congrArg va_rf hb3) ?_
    obtain ⟨hs4, h⟩ := h
    refine pw_callV (vs := []) (st := []) (b := b3) (cn := 5) dc_Desk_send_27 cq_Outlet_isIdle (List.mem_of_getElem? (i := 778) (by decide +kernel)) (List.mem_of_getElem? (i := 779) (by decide +kernel)) (List.mem_of_getElem? (i := 777) (by decide +kernel)) rfl hs4 rfl rfl (by decide) (cat_nil) (Nat.le_of_ble_eq_true rfl) (PW.mono (kI_kN (fun r1 σ2 h => ?_)) h)
    refine pw_if_eq (tgt := 55) dc_Desk_send_30 (by decide) (fun hc => ?_) (fun hc => ?_)
    · have h := ite_t h hc
      refine pw_aload_n dc_Desk_send_55 rfl rfl ?_
      obtain ⟨hs5, h⟩ := h
      refine pw_getR (c := 1) (k := 3) (f := 67) dc_Desk_send_56 fl_Desk_137 rfl rfl hs5 ?_
      obtain ⟨b4, hb4, h⟩ := h
      refine PW.top (v' := .ref b4) (congrArg va_rf hb4) ?_
      obtain ⟨hs6, h⟩ := h
      refine pw_callV (vs := []) (st := []) (b := b4) (cn := 5) dc_Desk_send_59 cq_Outlet_nextSign (List.mem_of_getElem? (i := 822) (by decide +kernel)) (List.mem_of_getElem? (i := 823) (by decide +kernel)) (List.mem_of_getElem? (i := 821) (by decide +kernel)) rfl hs6 rfl rfl (by decide) (cat_nil) (Nat.le_of_ble_eq_true rfl) (PW.mono (kI_kN (fun r2 σ3 h => ?_)) h)
      exact pw_iret dc_Desk_send_62 rfl rfl h
    · have h := ite_f h hc
      refine pw_aload_n dc_Desk_send_33 rfl rfl ?_
      obtain ⟨hs7, h⟩ := h
      refine pw_getR (c := 1) (k := 3) (f := 67) dc_Desk_send_34 fl_Desk_137 rfl rfl hs7 ?_
      obtain ⟨b5, hb5, h⟩ := h
      refine PW.top (v' := .ref b5) (congrArg va_rf hb5) ?_
      obtain ⟨hs8, h⟩ := h
      refine pw_callV (vs := []) (st := []) (b := b5) (cn := 5) dc_Desk_send_37 cq_Outlet_startsAsked (List.mem_of_getElem? (i := 782) (by decide +kernel)) (List.mem_of_getElem? (i := 783) (by decide +kernel)) (List.mem_of_getElem? (i := 781) (by decide +kernel)) rfl hs8 rfl rfl (by decide) (cat_nil) (Nat.le_of_ble_eq_true rfl) (PW.mono (kI_kN (fun r3 σ4 h => ?_)) h)
      refine pw_if_ne (tgt := 55) dc_Desk_send_40 (by decide) (fun hc => ?_) (fun hc => ?_)
      · have h := ite_f h hc
        refine pw_aload_n dc_Desk_send_55 rfl rfl ?_
        obtain ⟨hs9, h⟩ := h
        refine pw_getR (c := 1) (k := 3) (f := 67) dc_Desk_send_56 fl_Desk_137 rfl rfl hs9 ?_
        obtain ⟨b6, hb6, h⟩ := h
        refine PW.top (v' := .ref b6) (congrArg va_rf hb6) ?_
        obtain ⟨hs10, h⟩ := h
        refine pw_callV (vs := []) (st := []) (b := b6) (cn := 5) dc_Desk_send_59 cq_Outlet_nextSign (List.mem_of_getElem? (i := 822) (by decide +kernel)) (List.mem_of_getElem? (i := 823) (by decide +kernel)) (List.mem_of_getElem? (i := 821) (by decide +kernel)) rfl hs10 rfl rfl (by decide) (cat_nil) (Nat.le_of_ble_eq_true rfl) (PW.mono (kI_kN (fun r4 σ5 h => ?_)) h)
        exact pw_iret dc_Desk_send_62 rfl rfl h
      · have h := ite_t h hc
        refine pw_aload_n dc_Desk_send_43 rfl rfl ?_
        obtain ⟨hs11, h⟩ := h
        refine pw_getR (c := 1) (k := 3) (f := 67) dc_Desk_send_44 fl_Desk_137 rfl rfl hs11 ?_
        obtain ⟨b7, hb7, h⟩ := h
        refine PW.top (v' := .ref b7) (congrArg va_rf hb7) ?_
        refine pw_aload_n dc_Desk_send_47 rfl rfl ?_
        refine pw_iload_n dc_Desk_send_48 rfl ?_
        obtain ⟨hs12, h⟩ := h
        refine pw_callV (vs := [.int x1]) (st := [.ref b7]) (b := x0) (cn := 0) dc_Desk_send_49 cq_Desk_firstWaiting (List.mem_of_getElem? (i := 810) (by decide +kernel)) (List.mem_of_getElem? (i := 23) (by decide +kernel)) (List.mem_of_getElem? (i := 808) (by decide +kernel)) rfl hs12 rfl rfl (by decide) (cat_cons rfl (cat_nil)) (Nat.le_of_ble_eq_true rfl) (PW.mono (kR_kN (fun r5 σ6 h => ?_)) h)
        obtain ⟨hs13, h⟩ := h
        refine pw_callV (vs := [va_rf r5]) (st := []) (b := b7) (cn := 5) dc_Desk_send_52 cq_Outlet_startEntry (List.mem_of_getElem? (i := 817) (by decide +kernel)) (List.mem_of_getElem? (i := 818) (by decide +kernel)) (List.mem_of_getElem? (i := 816) (by decide +kernel)) rfl hs13 rfl rfl (by decide) (cat_cons (isRef_cat (va_rf_ref _)) (cat_nil)) (Nat.le_of_ble_eq_true rfl) (PW.mono (kV_kN (fun σ7 h => ?_)) h)
        refine pw_aload_n dc_Desk_send_55 rfl rfl ?_
        obtain ⟨hs14, h⟩ := h
        refine pw_getR (c := 1) (k := 3) (f := 67) dc_Desk_send_56 fl_Desk_137 rfl rfl hs14 ?_
        obtain ⟨b8, hb8, h⟩ := h
        refine PW.top (v' := .ref b8) (congrArg va_rf hb8) ?_
        obtain ⟨hs15, h⟩ := h
        refine pw_callV (vs := []) (st := []) (b := b8) (cn := 5) dc_Desk_send_59 cq_Outlet_nextSign (List.mem_of_getElem? (i := 822) (by decide +kernel)) (List.mem_of_getElem? (i := 823) (by decide +kernel)) (List.mem_of_getElem? (i := 821) (by decide +kernel)) rfl hs15 rfl rfl (by decide) (cat_nil) (Nat.le_of_ble_eq_true rfl) (PW.mono (kI_kN (fun r6 σ8 h => ?_)) h)
        exact pw_iret dc_Desk_send_62 rfl rfl h
  · have h := ite_t h hc
    refine pw_iconst (v := (-1)) dc_Desk_send_21 (by decide) ?_
    exact pw_iret dc_Desk_send_22 rfl rfl h
theorem dc_Desk_rerun_0 : decode M_Desk_rerun.2.1 0 = .ok (.iload_n 1, 1) := by decide +kernel
theorem dc_Desk_rerun_1 : decode M_Desk_rerun.2.1 1 = .ok (.iconst 0, 1) := by decide +kernel
theorem dc_Desk_rerun_2 : decode M_Desk_rerun.2.1 2 = .ok (.bipush 7, 2) := by decide +kernel
theorem dc_Desk_rerun_4 : decode M_Desk_rerun.2.1 4 = .ok (.invokestatic 46, 3) := by decide +kernel
theorem dc_Desk_rerun_7 : decode M_Desk_rerun.2.1 7 = .ok (.iload_n 2, 1) := by decide +kernel
theorem dc_Desk_rerun_8 : decode M_Desk_rerun.2.1 8 = .ok (.iconst 1, 1) := by decide +kernel
theorem dc_Desk_rerun_9 : decode M_Desk_rerun.2.1 9 = .ok (.sipush 999, 3) := by decide +kernel
theorem dc_Desk_rerun_12 : decode M_Desk_rerun.2.1 12 = .ok (.invokestatic 46, 3) := by decide +kernel
theorem dc_Desk_rerun_15 : decode M_Desk_rerun.2.1 15 = .ok (.aload_n 0, 1) := by decide +kernel
theorem dc_Desk_rerun_16 : decode M_Desk_rerun.2.1 16 = .ok (.getfield 11, 3) := by decide +kernel
theorem dc_Desk_rerun_19 : decode M_Desk_rerun.2.1 19 = .ok (.iload_n 1, 1) := by decide +kernel
theorem dc_Desk_rerun_20 : decode M_Desk_rerun.2.1 20 = .ok (.aaload, 1) := by decide +kernel
theorem dc_Desk_rerun_21 : decode M_Desk_rerun.2.1 21 = .ok (.getfield 137, 3) := by decide +kernel
theorem dc_Desk_rerun_24 : decode M_Desk_rerun.2.1 24 = .ok (.astore_n 3, 1) := by decide +kernel
theorem dc_Desk_rerun_25 : decode M_Desk_rerun.2.1 25 = .ok (.aload_n 3, 1) := by decide +kernel
theorem dc_Desk_rerun_26 : decode M_Desk_rerun.2.1 26 = .ok (.getfield 160, 3) := by decide +kernel
theorem dc_Desk_rerun_29 : decode M_Desk_rerun.2.1 29 = .ok (.iconst 3, 1) := by decide +kernel
theorem dc_Desk_rerun_30 : decode M_Desk_rerun.2.1 30 = .ok (.if_icmp .lt 11, 3) := by decide +kernel
theorem dc_Desk_rerun_33 : decode M_Desk_rerun.2.1 33 = .ok (.new 106, 3) := by decide +kernel
theorem dc_Desk_rerun_36 : decode M_Desk_rerun.2.1 36 = .ok (.dup, 1) := by decide +kernel
theorem dc_Desk_rerun_37 : decode M_Desk_rerun.2.1 37 = .ok (.invokespecial 108, 3) := by decide +kernel
theorem dc_Desk_rerun_40 : decode M_Desk_rerun.2.1 40 = .ok (.athrow, 1) := by decide +kernel
theorem dc_Desk_rerun_41 : decode M_Desk_rerun.2.1 41 = .ok (.aload_n 3, 1) := by decide +kernel
theorem dc_Desk_rerun_42 : decode M_Desk_rerun.2.1 42 = .ok (.iload_n 2, 1) := by decide +kernel
theorem dc_Desk_rerun_43 : decode M_Desk_rerun.2.1 43 = .ok (.invokevirtual 163, 3) := by decide +kernel
theorem dc_Desk_rerun_46 : decode M_Desk_rerun.2.1 46 = .ok (.ireturn, 1) := by decide +kernel
set_option maxRecDepth 20000 in
theorem e_Desk_rerun_0 {d : Nat} {σ : PH} {K : PO → PH → Prop} (x0 : Nat) (x1 : Int32) (x2 : Int32) (h : PW (d + 6) M_Desk_needWithin 0 [.int x1, .int 0, .int 7] [] σ (kV (fun σ1 => PW (d + 6) M_Desk_needWithin 0 [.int x2, .int 1, .int 999] [] σ1 (kV (fun σ2 => sh σ2 x0 = (1, 0) ∧ (∃ b1 : Nat, gR σ2 0 x0 = some b1 ∧ (∃ n1 : Nat, sh σ2 b1 = (6, n1) ∧ vp_in x1 n1 ∧ (∃ b2 : Nat, eR σ2 b1 (ix x1) = some b2 ∧ sh σ2 b2 = (1, 1) ∧ (∃ b3 : Nat, gR σ2 67 b2 = some b3 ∧ sh σ2 b3 = (1, 5) ∧ (if (gI σ2 329 b3) < 3 then PW (d + 6) M_Outlet_asksAgain 0 [.ref b3, .int x2, uu, uu] [] σ2 (kI (fun r1 σ3 => bo r1 ∧ K (.inl (some (.int r1))) σ3) K) else cc σ2 + 1 ≤ 601024 ∧ cs σ2 + 6 ≤ 7293034 ∧ K (.inr 1) (bump σ2 1 6))))))) K)) K)) : PW (d + 7) M_Desk_rerun 0 [.ref x0, .int x1, .int x2, uu] [] σ K := by
  refine pw_iload_n dc_Desk_rerun_0 rfl ?_
  refine pw_iconst (v := 0) dc_Desk_rerun_1 (by decide) ?_
  refine pw_bipush (v := 7) dc_Desk_rerun_2 (by decide) ?_
  refine pw_callS (vs := [.int x1, .int 0, .int 7]) (st := []) dc_Desk_rerun_4 cq_Desk_needWithin (List.mem_of_getElem? (i := 402) (by decide +kernel)) (List.mem_of_getElem? (i := 401) (by decide +kernel)) rfl rfl (cat_cons rfl (cat_cons rfl (cat_cons rfl (cat_nil)))) (Nat.le_of_ble_eq_true rfl) (PW.mono (kV_kN (fun σ1 h => ?_)) h)
  refine pw_iload_n dc_Desk_rerun_7 rfl ?_
  refine pw_iconst (v := 1) dc_Desk_rerun_8 (by decide) ?_
  refine pw_sipush (v := 999) dc_Desk_rerun_9 (by decide) ?_
  refine pw_callS (vs := [.int x2, .int 1, .int 999]) (st := []) dc_Desk_rerun_12 cq_Desk_needWithin (List.mem_of_getElem? (i := 402) (by decide +kernel)) (List.mem_of_getElem? (i := 401) (by decide +kernel)) rfl rfl (cat_cons rfl (cat_cons rfl (cat_cons rfl (cat_nil)))) (Nat.le_of_ble_eq_true rfl) (PW.mono (kV_kN (fun σ2 h => ?_)) h)
  refine pw_aload_n dc_Desk_rerun_15 rfl rfl ?_
  obtain ⟨hs1, h⟩ := h
  refine pw_getR (c := 0) (k := 0) (f := 0) dc_Desk_rerun_16 fl_Desk_11 rfl rfl hs1 ?_
  obtain ⟨b1, hb1, h⟩ := h
  refine PW.top (v' := .ref b1) (congrArg va_rf hb1) ?_
  refine pw_iload_n dc_Desk_rerun_19 rfl ?_
  obtain ⟨n1, hs2, h⟩ := h
  obtain ⟨hi1, h⟩ := h
  refine pw_aald (k := 6) dc_Desk_rerun_20 (by unfold rk; decide) hs2 hi1 ?_
  obtain ⟨b2, hb2, h⟩ := h
  refine PW.top (v' := .ref b2) (congrArg va_rf hb2) ?_
  obtain ⟨hs3, h⟩ := h
  refine pw_getR (c := 1) (k := 3) (f := 67) dc_Desk_rerun_21 fl_Desk_137 rfl rfl hs3 ?_
  obtain ⟨b3, hb3, h⟩ := h
  refine PW.top (v' := .ref b3) (congrArg va_rf hb3) ?_
  refine pw_astore_n dc_Desk_rerun_24 (by decide) rfl ?_
  refine pw_aload_n dc_Desk_rerun_25 rfl rfl ?_
  obtain ⟨hs4, h⟩ := h
  refine pw_getI (c := 5) (k := 9) (f := 329) dc_Desk_rerun_26 fl_Desk_160 rfl rfl hs4 ?_
  refine pw_iconst (v := 3) dc_Desk_rerun_29 (by decide) ?_
  refine pw_icmp_lt (tgt := 41) dc_Desk_rerun_30 (by decide) (fun hc => ?_) (fun hc => ?_)
  · have h := ite_t h hc
    refine pw_aload_n dc_Desk_rerun_41 rfl rfl ?_
    refine pw_iload_n dc_Desk_rerun_42 rfl ?_
    refine pw_callV (vs := [.int x2]) (st := []) (b := b3) (cn := 5) dc_Desk_rerun_43 cq_Outlet_asksAgain (List.mem_of_getElem? (i := 901) (by decide +kernel)) (List.mem_of_getElem? (i := 902) (by decide +kernel)) (List.mem_of_getElem? (i := 900) (by decide +kernel)) rfl hs4 rfl rfl (by decide) (cat_cons rfl (cat_nil)) (Nat.le_of_ble_eq_true rfl) (PW.mono (kI_kN (fun r1 σ3 h => ?_)) h)
    exact pw_iret dc_Desk_rerun_46 rfl (bo_nar h.1) h.2
  · have h := ite_f h hc
    obtain ⟨hr1, hr2, h⟩ := h
    exact pw_throw (kd := 1) dc_Desk_rerun_33 dc_Desk_rerun_36 dc_Desk_rerun_37 dc_Desk_rerun_40 (by decide) (List.mem_of_getElem? (i := 719) (by decide +kernel)) ex_tbl1 rfl hr1 hr2 (Nat.le_of_ble_eq_true rfl) h
theorem dc_Desk_queued_0 : decode M_Desk_queued.2.1 0 = .ok (.iload_n 1, 1) := by decide +kernel
theorem dc_Desk_queued_1 : decode M_Desk_queued.2.1 1 = .ok (.iconst 0, 1) := by decide +kernel
theorem dc_Desk_queued_2 : decode M_Desk_queued.2.1 2 = .ok (.bipush 7, 2) := by decide +kernel
theorem dc_Desk_queued_4 : decode M_Desk_queued.2.1 4 = .ok (.invokestatic 46, 3) := by decide +kernel
theorem dc_Desk_queued_7 : decode M_Desk_queued.2.1 7 = .ok (.iload_n 2, 1) := by decide +kernel
theorem dc_Desk_queued_8 : decode M_Desk_queued.2.1 8 = .ok (.iconst 1, 1) := by decide +kernel
theorem dc_Desk_queued_9 : decode M_Desk_queued.2.1 9 = .ok (.iconst 4, 1) := by decide +kernel
theorem dc_Desk_queued_10 : decode M_Desk_queued.2.1 10 = .ok (.invokestatic 46, 3) := by decide +kernel
theorem dc_Desk_queued_13 : decode M_Desk_queued.2.1 13 = .ok (.iconst 0, 1) := by decide +kernel
theorem dc_Desk_queued_14 : decode M_Desk_queued.2.1 14 = .ok (.istore_n 3, 1) := by decide +kernel
theorem dc_Desk_queued_15 : decode M_Desk_queued.2.1 15 = .ok (.iconst 0, 1) := by decide +kernel
theorem dc_Desk_queued_16 : decode M_Desk_queued.2.1 16 = .ok (.istore 4, 2) := by decide +kernel
theorem dc_Desk_queued_18 : decode M_Desk_queued.2.1 18 = .ok (.iload 4, 2) := by decide +kernel
theorem dc_Desk_queued_20 : decode M_Desk_queued.2.1 20 = .ok (.aload_n 0, 1) := by decide +kernel
theorem dc_Desk_queued_21 : decode M_Desk_queued.2.1 21 = .ok (.getfield 166, 3) := by decide +kernel
theorem dc_Desk_queued_24 : decode M_Desk_queued.2.1 24 = .ok (.if_icmp .ge 40, 3) := by decide +kernel
theorem dc_Desk_queued_27 : decode M_Desk_queued.2.1 27 = .ok (.aload_n 0, 1) := by decide +kernel
theorem dc_Desk_queued_28 : decode M_Desk_queued.2.1 28 = .ok (.getfield 17, 3) := by decide +kernel
theorem dc_Desk_queued_31 : decode M_Desk_queued.2.1 31 = .ok (.iload 4, 2) := by decide +kernel
theorem dc_Desk_queued_33 : decode M_Desk_queued.2.1 33 = .ok (.aaload, 1) := by decide +kernel
theorem dc_Desk_queued_34 : decode M_Desk_queued.2.1 34 = .ok (.iload_n 1, 1) := by decide +kernel
theorem dc_Desk_queued_35 : decode M_Desk_queued.2.1 35 = .ok (.invokevirtual 169, 3) := by decide +kernel
theorem dc_Desk_queued_38 : decode M_Desk_queued.2.1 38 = .ok (.ifCond .eq 20, 3) := by decide +kernel
theorem dc_Desk_queued_41 : decode M_Desk_queued.2.1 41 = .ok (.aload_n 0, 1) := by decide +kernel
theorem dc_Desk_queued_42 : decode M_Desk_queued.2.1 42 = .ok (.getfield 17, 3) := by decide +kernel
theorem dc_Desk_queued_45 : decode M_Desk_queued.2.1 45 = .ok (.iload 4, 2) := by decide +kernel
theorem dc_Desk_queued_47 : decode M_Desk_queued.2.1 47 = .ok (.aaload, 1) := by decide +kernel
theorem dc_Desk_queued_48 : decode M_Desk_queued.2.1 48 = .ok (.getfield 172, 3) := by decide +kernel
theorem dc_Desk_queued_51 : decode M_Desk_queued.2.1 51 = .ok (.iload_n 2, 1) := by decide +kernel
theorem dc_Desk_queued_52 : decode M_Desk_queued.2.1 52 = .ok (.if_icmp .ne 6, 3) := by decide +kernel
theorem dc_Desk_queued_55 : decode M_Desk_queued.2.1 55 = .ok (.iinc 3 1, 3) := by decide +kernel
theorem dc_Desk_queued_58 : decode M_Desk_queued.2.1 58 = .ok (.iinc 4 1, 3) := by decide +kernel
theorem dc_Desk_queued_61 : decode M_Desk_queued.2.1 61 = .ok (.goto (-43), 3) := by decide +kernel
theorem dc_Desk_queued_64 : decode M_Desk_queued.2.1 64 = .ok (.iload_n 3, 1) := by decide +kernel
theorem dc_Desk_queued_65 : decode M_Desk_queued.2.1 65 = .ok (.ireturn, 1) := by decide +kernel
set_option maxRecDepth 20000 in
theorem e_Desk_queued_0 {d : Nat} {σ : PH} {K : PO → PH → Prop} (x0 : Nat) (x1 : Int32) (x2 : Int32) (h : PW d M_Desk_needWithin 0 [.int x1, .int 0, .int 7] [] σ (kV (fun σ1 => PW d M_Desk_needWithin 0 [.int x2, .int 1, .int 4] [] σ1 (kV (fun σ2 => PW (d + 1) M_Desk_queued 18 [.ref x0, .int x1, .int x2, .int 0, .int 0] [] σ2 K) K)) K)) : PW (d + 1) M_Desk_queued 0 [.ref x0, .int x1, .int x2, uu, uu] [] σ K := by
  refine pw_iload_n dc_Desk_queued_0 rfl ?_
  refine pw_iconst (v := 0) dc_Desk_queued_1 (by decide) ?_
  refine pw_bipush (v := 7) dc_Desk_queued_2 (by decide) ?_
  refine pw_callS (vs := [.int x1, .int 0, .int 7]) (st := []) dc_Desk_queued_4 cq_Desk_needWithin (List.mem_of_getElem? (i := 402) (by decide +kernel)) (List.mem_of_getElem? (i := 401) (by decide +kernel)) rfl rfl (cat_cons rfl (cat_cons rfl (cat_cons rfl (cat_nil)))) (Nat.le_of_ble_eq_true rfl) (PW.mono (kV_kN (fun σ1 h => ?_)) h)
  refine pw_iload_n dc_Desk_queued_7 rfl ?_
  refine pw_iconst (v := 1) dc_Desk_queued_8 (by decide) ?_
  refine pw_iconst (v := 4) dc_Desk_queued_9 (by decide) ?_
  refine pw_callS (vs := [.int x2, .int 1, .int 4]) (st := []) dc_Desk_queued_10 cq_Desk_needWithin (List.mem_of_getElem? (i := 402) (by decide +kernel)) (List.mem_of_getElem? (i := 401) (by decide +kernel)) rfl rfl (cat_cons rfl (cat_cons rfl (cat_cons rfl (cat_nil)))) (Nat.le_of_ble_eq_true rfl) (PW.mono (kV_kN (fun σ2 h => ?_)) h)
  refine pw_iconst (v := 0) dc_Desk_queued_13 (by decide) ?_
  refine pw_istore_n dc_Desk_queued_14 (by decide) ?_
  refine pw_iconst (v := 0) dc_Desk_queued_15 (by decide) ?_
  refine pw_istore dc_Desk_queued_16 (by decide) ?_
  exact h
set_option maxRecDepth 20000 in
theorem e_Desk_queued_18 {d : Nat} {σ : PH} {K : PO → PH → Prop} (x0 : Nat) (x1 : Int32) (x2 : Int32) (x3 : Int32) (x4 : Int32) (h : sh σ x0 = (1, 0) ∧ (if (gI σ 5 x0) ≤ x4 then K (.inl (some (.int x3))) σ else (∃ b1 : Nat, gR σ 1 x0 = some b1 ∧ (∃ n1 : Nat, sh σ b1 = (7, n1) ∧ vp_in x4 n1 ∧ (∃ b2 : Nat, eR σ b1 (ix x4) = some b2 ∧ sh σ b2 = (1, 6) ∧ PW d M_Message_waitsOn 0 [.ref b2, .int x1] [] σ (kI (fun r1 σ1 => (if r1 = 0 then PW (d + 1) M_Desk_queued 58 [.ref x0, .int x1, .int x2, .int x3, .int x4] [] σ1 K else sh σ1 x0 = (1, 0) ∧ (∃ b3 : Nat, gR σ1 1 x0 = some b3 ∧ (∃ n2 : Nat, sh σ1 b3 = (7, n2) ∧ vp_in x4 n2 ∧ (∃ b4 : Nat, eR σ1 b3 (ix x4) = some b4 ∧ sh σ1 b4 = (1, 6) ∧ (if (gI σ1 384 b4) = x2 then PW (d + 1) M_Desk_queued 58 [.ref x0, .int x1, .int x2, .int (x3 + 1), .int x4] [] σ1 K else PW (d + 1) M_Desk_queued 58 [.ref x0, .int x1, .int x2, .int x3, .int x4] [] σ1 K)))))) K)))))) : PW (d + 1) M_Desk_queued 18 [.ref x0, .int x1, .int x2, .int x3, .int x4] [] σ K := by
  refine pw_iload dc_Desk_queued_18 rfl ?_
  refine pw_aload_n dc_Desk_queued_20 rfl rfl ?_
  obtain ⟨hs1, h⟩ := h
  refine pw_getI (c := 0) (k := 5) (f := 5) dc_Desk_queued_21 fl_Desk_166 rfl rfl hs1 ?_
  refine pw_icmp_ge (tgt := 64) dc_Desk_queued_24 (by decide) (fun hc => ?_) (fun hc => ?_)
  · have h := ite_t h hc
    refine pw_iload_n dc_Desk_queued_64 rfl ?_
    exact pw_iret dc_Desk_queued_65 rfl rfl h
  · have h := ite_f h hc
    refine pw_aload_n dc_Desk_queued_27 rfl rfl ?_
    refine pw_getR (c := 0) (k := 1) (f := 1) dc_Desk_queued_28 fl_Desk_17 rfl rfl hs1 ?_
    obtain ⟨b1, hb1, h⟩ := h
    refine PW.top (v' := .ref b1) (congrArg va_rf hb1) ?_
    refine pw_iload dc_Desk_queued_31 rfl ?_
    obtain ⟨n1, hs2, h⟩ := h
    obtain ⟨hi1, h⟩ := h
    refine pw_aald (k := 7) dc_Desk_queued_33 (by unfold rk; decide) hs2 hi1 ?_
    obtain ⟨b2, hb2, h⟩ := h
    refine PW.top (v' := .ref b2) (congrArg va_rf hb2) ?_
    refine pw_iload_n dc_Desk_queued_34 rfl ?_
    obtain ⟨hs3, h⟩ := h
    refine pw_callV (vs := [.int x1]) (st := []) (b := b2) (cn := 6) dc_Desk_queued_35 cq_Message_waitsOn (List.mem_of_getElem? (i := 813) (by decide +kernel)) (List.mem_of_getElem? (i := 814) (by decide +kernel)) (List.mem_of_getElem? (i := 812) (by decide +kernel)) rfl hs3 rfl rfl (by decide) (cat_cons rfl (cat_nil)) (Nat.le_of_ble_eq_true rfl) (PW.mono (kI_kN (fun r1 σ1 h => ?_)) h)
    refine pw_if_eq (tgt := 58) dc_Desk_queued_38 (by decide) (fun hc => ?_) (fun hc => ?_)
    · have h := ite_t h hc
      exact h
    · have h := ite_f h hc
      refine pw_aload_n dc_Desk_queued_41 rfl rfl ?_
      obtain ⟨hs4, h⟩ := h
      refine pw_getR (c := 0) (k := 1) (f := 1) dc_Desk_queued_42 fl_Desk_17 rfl rfl hs4 ?_
      obtain ⟨b3, hb3, h⟩ := h
      refine PW.top (v' := .ref b3) (congrArg va_rf hb3) ?_
      refine pw_iload dc_Desk_queued_45 rfl ?_
      obtain ⟨n2, hs5, h⟩ := h
      obtain ⟨hi2, h⟩ := h
      refine pw_aald (k := 7) dc_Desk_queued_47 (by unfold rk; decide) hs5 hi2 ?_
      obtain ⟨b4, hb4, h⟩ := h
      refine PW.top (v' := .ref b4) (congrArg va_rf hb4) ?_
      obtain ⟨hs6, h⟩ := h
      refine pw_getI (c := 6) (k := 0) (f := 384) dc_Desk_queued_48 fl_Desk_172 rfl rfl hs6 ?_
      refine pw_iload_n dc_Desk_queued_51 rfl ?_
      refine pw_icmp_ne (tgt := 58) dc_Desk_queued_52 (by decide) (fun hc => ?_) (fun hc => ?_)
      · have h := ite_f h hc
        exact h
      · have h := ite_t h hc
        refine pw_iincv (v := 1) dc_Desk_queued_55 (by decide) rfl (by decide) ?_
        exact h
set_option maxRecDepth 20000 in
theorem e_Desk_queued_58 {d : Nat} {σ : PH} {K : PO → PH → Prop} (x0 : Nat) (x1 : Int32) (x2 : Int32) (x3 : Int32) (x4 : Int32) (h : PW (d + 1) M_Desk_queued 18 [.ref x0, .int x1, .int x2, .int x3, .int (x4 + 1)] [] σ K) : PW (d + 1) M_Desk_queued 58 [.ref x0, .int x1, .int x2, .int x3, .int x4] [] σ K := by
  refine pw_iincv (v := 1) dc_Desk_queued_58 (by decide) rfl (by decide) ?_
  refine pw_goto (tgt := 18) dc_Desk_queued_61 (by decide) ?_
  exact h
theorem dc_Desk_trace_0 : decode M_Desk_trace.2.1 0 = .ok (.iload_n 1, 1) := by decide +kernel
theorem dc_Desk_trace_1 : decode M_Desk_trace.2.1 1 = .ok (.iconst 1, 1) := by decide +kernel
theorem dc_Desk_trace_2 : decode M_Desk_trace.2.1 2 = .ok (.aload_n 0, 1) := by decide +kernel
theorem dc_Desk_trace_3 : decode M_Desk_trace.2.1 3 = .ok (.getfield 166, 3) := by decide +kernel
theorem dc_Desk_trace_6 : decode M_Desk_trace.2.1 6 = .ok (.invokestatic 46, 3) := by decide +kernel
theorem dc_Desk_trace_9 : decode M_Desk_trace.2.1 9 = .ok (.iload_n 2, 1) := by decide +kernel
theorem dc_Desk_trace_10 : decode M_Desk_trace.2.1 10 = .ok (.iconst 0, 1) := by decide +kernel
theorem dc_Desk_trace_11 : decode M_Desk_trace.2.1 11 = .ok (.bipush 7, 2) := by decide +kernel
theorem dc_Desk_trace_13 : decode M_Desk_trace.2.1 13 = .ok (.invokestatic 46, 3) := by decide +kernel
theorem dc_Desk_trace_16 : decode M_Desk_trace.2.1 16 = .ok (.aload_n 0, 1) := by decide +kernel
theorem dc_Desk_trace_17 : decode M_Desk_trace.2.1 17 = .ok (.getfield 17, 3) := by decide +kernel
theorem dc_Desk_trace_20 : decode M_Desk_trace.2.1 20 = .ok (.iload_n 1, 1) := by decide +kernel
theorem dc_Desk_trace_21 : decode M_Desk_trace.2.1 21 = .ok (.iconst 1, 1) := by decide +kernel
theorem dc_Desk_trace_22 : decode M_Desk_trace.2.1 22 = .ok (.isub, 1) := by decide +kernel
theorem dc_Desk_trace_23 : decode M_Desk_trace.2.1 23 = .ok (.aaload, 1) := by decide +kernel
theorem dc_Desk_trace_24 : decode M_Desk_trace.2.1 24 = .ok (.getfield 175, 3) := by decide +kernel
theorem dc_Desk_trace_27 : decode M_Desk_trace.2.1 27 = .ok (.iload_n 2, 1) := by decide +kernel
theorem dc_Desk_trace_28 : decode M_Desk_trace.2.1 28 = .ok (.iaload, 1) := by decide +kernel
theorem dc_Desk_trace_29 : decode M_Desk_trace.2.1 29 = .ok (.istore_n 3, 1) := by decide +kernel
theorem dc_Desk_trace_30 : decode M_Desk_trace.2.1 30 = .ok (.iload_n 3, 1) := by decide +kernel
theorem dc_Desk_trace_31 : decode M_Desk_trace.2.1 31 = .ok (.bipush (-2), 2) := by decide +kernel
theorem dc_Desk_trace_33 : decode M_Desk_trace.2.1 33 = .ok (.if_icmp .ne 7, 3) := by decide +kernel
theorem dc_Desk_trace_36 : decode M_Desk_trace.2.1 36 = .ok (.iconst (-1), 1) := by decide +kernel
theorem dc_Desk_trace_37 : decode M_Desk_trace.2.1 37 = .ok (.goto 4, 3) := by decide +kernel
theorem dc_Desk_trace_40 : decode M_Desk_trace.2.1 40 = .ok (.iload_n 3, 1) := by decide +kernel
theorem dc_Desk_trace_41 : decode M_Desk_trace.2.1 41 = .ok (.ireturn, 1) := by decide +kernel
set_option maxRecDepth 20000 in
theorem e_Desk_trace_0 {d : Nat} {σ : PH} {K : PO → PH → Prop} (x0 : Nat) (x1 : Int32) (x2 : Int32) (h : sh σ x0 = (1, 0) ∧ PW d M_Desk_needWithin 0 [.int x1, .int 1, .int (gI σ 5 x0)] [] σ (kV (fun σ1 => PW d M_Desk_needWithin 0 [.int x2, .int 0, .int 7] [] σ1 (kV (fun σ2 => sh σ2 x0 = (1, 0) ∧ (∃ b1 : Nat, gR σ2 1 x0 = some b1 ∧ (∃ n1 : Nat, sh σ2 b1 = (7, n1) ∧ vp_in (x1 - 1) n1 ∧ (∃ b2 : Nat, eR σ2 b1 (ix (x1 - 1)) = some b2 ∧ sh σ2 b2 = (1, 6) ∧ (∃ b3 : Nat, gR σ2 388 b2 = some b3 ∧ (∃ n2 : Nat, sh σ2 b3 = (2, n2) ∧ vp_in x2 n2 ∧ (if (eI σ2 b3 (ix x2)) = (-2) then K (.inl (some (.int ((-1))))) σ2 else K (.inl (some (.int (eI σ2 b3 (ix x2))))) σ2))))))) K)) K)) : PW (d + 1) M_Desk_trace 0 [.ref x0, .int x1, .int x2, uu] [] σ K := by
  refine pw_iload_n dc_Desk_trace_0 rfl ?_
  refine pw_iconst (v := 1) dc_Desk_trace_1 (by decide) ?_
  refine pw_aload_n dc_Desk_trace_2 rfl rfl ?_
  obtain ⟨hs1, h⟩ := h
  refine pw_getI (c := 0) (k := 5) (f := 5) dc_Desk_trace_3 fl_Desk_166 rfl rfl hs1 ?_
  refine pw_callS (vs := [.int x1, .int 1, .int (gI σ 5 x0)]) (st := []) dc_Desk_trace_6 cq_Desk_needWithin (List.mem_of_getElem? (i := 402) (by decide +kernel)) (List.mem_of_getElem? (i := 401) (by decide +kernel)) rfl rfl (cat_cons rfl (cat_cons rfl (cat_cons rfl (cat_nil)))) (Nat.le_of_ble_eq_true rfl) (PW.mono (kV_kN (fun σ1 h => ?_)) h)
  refine pw_iload_n dc_Desk_trace_9 rfl ?_
  refine pw_iconst (v := 0) dc_Desk_trace_10 (by decide) ?_
  refine pw_bipush (v := 7) dc_Desk_trace_11 (by decide) ?_
  refine pw_callS (vs := [.int x2, .int 0, .int 7]) (st := []) dc_Desk_trace_13 cq_Desk_needWithin (List.mem_of_getElem? (i := 402) (by decide +kernel)) (List.mem_of_getElem? (i := 401) (by decide +kernel)) rfl rfl (cat_cons rfl (cat_cons rfl (cat_cons rfl (cat_nil)))) (Nat.le_of_ble_eq_true rfl) (PW.mono (kV_kN (fun σ2 h => ?_)) h)
  refine pw_aload_n dc_Desk_trace_16 rfl rfl ?_
  obtain ⟨hs2, h⟩ := h
  refine pw_getR (c := 0) (k := 1) (f := 1) dc_Desk_trace_17 fl_Desk_17 rfl rfl hs2 ?_
  obtain ⟨b1, hb1, h⟩ := h
  refine PW.top (v' := .ref b1) (congrArg va_rf hb1) ?_
  refine pw_iload_n dc_Desk_trace_20 rfl ?_
  refine pw_iconst (v := 1) dc_Desk_trace_21 (by decide) ?_
  refine pw_isub dc_Desk_trace_22 ?_
  obtain ⟨n1, hs3, h⟩ := h
  obtain ⟨hi1, h⟩ := h
  refine pw_aald (k := 7) dc_Desk_trace_23 (by unfold rk; decide) hs3 hi1 ?_
  obtain ⟨b2, hb2, h⟩ := h
  refine PW.top (v' := .ref b2) (congrArg va_rf hb2) ?_
  obtain ⟨hs4, h⟩ := h
  refine pw_getR (c := 6) (k := 4) (f := 388) dc_Desk_trace_24 fl_Desk_175 rfl rfl hs4 ?_
  obtain ⟨b3, hb3, h⟩ := h
  refine PW.top (v' := .ref b3) (congrArg va_rf hb3) ?_
  refine pw_iload_n dc_Desk_trace_27 rfl ?_
  obtain ⟨n2, hs5, h⟩ := h
  obtain ⟨hi2, h⟩ := h
  refine pw_iald dc_Desk_trace_28 hs5 hi2 ?_
  refine pw_istore_n dc_Desk_trace_29 (by decide) ?_
  refine pw_iload_n dc_Desk_trace_30 rfl ?_
  refine pw_bipush (v := (-2)) dc_Desk_trace_31 (by decide) ?_
  refine pw_icmp_ne (tgt := 40) dc_Desk_trace_33 (by decide) (fun hc => ?_) (fun hc => ?_)
  · have h := ite_f h hc
    refine pw_iload_n dc_Desk_trace_40 rfl ?_
    exact pw_iret dc_Desk_trace_41 rfl rfl h
  · have h := ite_t h hc
    refine pw_iconst (v := (-1)) dc_Desk_trace_36 (by decide) ?_
    refine pw_goto (tgt := 41) dc_Desk_trace_37 (by decide) ?_
    exact pw_iret dc_Desk_trace_41 rfl rfl h
theorem dc_Desk_reason_0 : decode M_Desk_reason.2.1 0 = .ok (.iload_n 1, 1) := by decide +kernel
theorem dc_Desk_reason_1 : decode M_Desk_reason.2.1 1 = .ok (.iconst 1, 1) := by decide +kernel
theorem dc_Desk_reason_2 : decode M_Desk_reason.2.1 2 = .ok (.aload_n 0, 1) := by decide +kernel
theorem dc_Desk_reason_3 : decode M_Desk_reason.2.1 3 = .ok (.getfield 179, 3) := by decide +kernel
theorem dc_Desk_reason_6 : decode M_Desk_reason.2.1 6 = .ok (.invokestatic 46, 3) := by decide +kernel
theorem dc_Desk_reason_9 : decode M_Desk_reason.2.1 9 = .ok (.aload_n 0, 1) := by decide +kernel
theorem dc_Desk_reason_10 : decode M_Desk_reason.2.1 10 = .ok (.getfield 23, 3) := by decide +kernel
theorem dc_Desk_reason_13 : decode M_Desk_reason.2.1 13 = .ok (.iload_n 1, 1) := by decide +kernel
theorem dc_Desk_reason_14 : decode M_Desk_reason.2.1 14 = .ok (.iconst 1, 1) := by decide +kernel
theorem dc_Desk_reason_15 : decode M_Desk_reason.2.1 15 = .ok (.isub, 1) := by decide +kernel
theorem dc_Desk_reason_16 : decode M_Desk_reason.2.1 16 = .ok (.aaload, 1) := by decide +kernel
theorem dc_Desk_reason_17 : decode M_Desk_reason.2.1 17 = .ok (.getfield 182, 3) := by decide +kernel
theorem dc_Desk_reason_20 : decode M_Desk_reason.2.1 20 = .ok (.ireturn, 1) := by decide +kernel
set_option maxRecDepth 20000 in
theorem e_Desk_reason_0 {d : Nat} {σ : PH} {K : PO → PH → Prop} (x0 : Nat) (x1 : Int32) (h : sh σ x0 = (1, 0) ∧ PW d M_Desk_needWithin 0 [.int x1, .int 1, .int (gI σ 6 x0)] [] σ (kV (fun σ1 => sh σ1 x0 = (1, 0) ∧ (∃ b1 : Nat, gR σ1 2 x0 = some b1 ∧ (∃ n1 : Nat, sh σ1 b1 = (8, n1) ∧ vp_in (x1 - 1) n1 ∧ (∃ b2 : Nat, eR σ1 b1 (ix (x1 - 1)) = some b2 ∧ sh σ1 b2 = (1, 7) ∧ K (.inl (some (.int (gI σ1 448 b2)))) σ1)))) K)) : PW (d + 1) M_Desk_reason 0 [.ref x0, .int x1] [] σ K := by
  refine pw_iload_n dc_Desk_reason_0 rfl ?_
  refine pw_iconst (v := 1) dc_Desk_reason_1 (by decide) ?_
  refine pw_aload_n dc_Desk_reason_2 rfl rfl ?_
  obtain ⟨hs1, h⟩ := h
  refine pw_getI (c := 0) (k := 6) (f := 6) dc_Desk_reason_3 fl_Desk_179 rfl rfl hs1 ?_
  refine pw_callS (vs := [.int x1, .int 1, .int (gI σ 6 x0)]) (st := []) dc_Desk_reason_6 cq_Desk_needWithin (List.mem_of_getElem? (i := 402) (by decide +kernel)) (List.mem_of_getElem? (i := 401) (by decide +kernel)) rfl rfl (cat_cons rfl (cat_cons rfl (cat_cons rfl (cat_nil)))) (Nat.le_of_ble_eq_true rfl) (PW.mono (kV_kN (fun σ1 h => ?_)) h)
  refine pw_aload_n dc_Desk_reason_9 rfl rfl ?_
  obtain ⟨hs2, h⟩ := h
  refine pw_getR (c := 0) (k := 2) (f := 2) dc_Desk_reason_10 fl_Desk_23 rfl rfl hs2 ?_
  obtain ⟨b1, hb1, h⟩ := h
  refine PW.top (v' := .ref b1) (congrArg va_rf hb1) ?_
  refine pw_iload_n dc_Desk_reason_13 rfl ?_
  refine pw_iconst (v := 1) dc_Desk_reason_14 (by decide) ?_
  refine pw_isub dc_Desk_reason_15 ?_
  obtain ⟨n1, hs3, h⟩ := h
  obtain ⟨hi1, h⟩ := h
  refine pw_aald (k := 8) dc_Desk_reason_16 (by unfold rk; decide) hs3 hi1 ?_
  obtain ⟨b2, hb2, h⟩ := h
  refine PW.top (v' := .ref b2) (congrArg va_rf hb2) ?_
  obtain ⟨hs4, h⟩ := h
  refine pw_getI (c := 7) (k := 0) (f := 448) dc_Desk_reason_17 fl_Desk_182 rfl rfl hs4 ?_
  exact pw_iret dc_Desk_reason_20 rfl rfl h
theorem dc_Desk_clerk_0 : decode M_Desk_clerk.2.1 0 = .ok (.iload_n 1, 1) := by decide +kernel
theorem dc_Desk_clerk_1 : decode M_Desk_clerk.2.1 1 = .ok (.iconst 1, 1) := by decide +kernel
theorem dc_Desk_clerk_2 : decode M_Desk_clerk.2.1 2 = .ok (.aload_n 0, 1) := by decide +kernel
theorem dc_Desk_clerk_3 : decode M_Desk_clerk.2.1 3 = .ok (.getfield 179, 3) := by decide +kernel
theorem dc_Desk_clerk_6 : decode M_Desk_clerk.2.1 6 = .ok (.invokestatic 46, 3) := by decide +kernel
theorem dc_Desk_clerk_9 : decode M_Desk_clerk.2.1 9 = .ok (.iload_n 2, 1) := by decide +kernel
theorem dc_Desk_clerk_10 : decode M_Desk_clerk.2.1 10 = .ok (.invokestatic 185, 3) := by decide +kernel
theorem dc_Desk_clerk_13 : decode M_Desk_clerk.2.1 13 = .ok (.iconst (-1), 1) := by decide +kernel
theorem dc_Desk_clerk_14 : decode M_Desk_clerk.2.1 14 = .ok (.if_icmp .ne 11, 3) := by decide +kernel
theorem dc_Desk_clerk_17 : decode M_Desk_clerk.2.1 17 = .ok (.new 100, 3) := by decide +kernel
theorem dc_Desk_clerk_20 : decode M_Desk_clerk.2.1 20 = .ok (.dup, 1) := by decide +kernel
theorem dc_Desk_clerk_21 : decode M_Desk_clerk.2.1 21 = .ok (.invokespecial 102, 3) := by decide +kernel
theorem dc_Desk_clerk_24 : decode M_Desk_clerk.2.1 24 = .ok (.athrow, 1) := by decide +kernel
theorem dc_Desk_clerk_25 : decode M_Desk_clerk.2.1 25 = .ok (.aload_n 0, 1) := by decide +kernel
theorem dc_Desk_clerk_26 : decode M_Desk_clerk.2.1 26 = .ok (.getfield 23, 3) := by decide +kernel
theorem dc_Desk_clerk_29 : decode M_Desk_clerk.2.1 29 = .ok (.iload_n 1, 1) := by decide +kernel
theorem dc_Desk_clerk_30 : decode M_Desk_clerk.2.1 30 = .ok (.iconst 1, 1) := by decide +kernel
theorem dc_Desk_clerk_31 : decode M_Desk_clerk.2.1 31 = .ok (.isub, 1) := by decide +kernel
theorem dc_Desk_clerk_32 : decode M_Desk_clerk.2.1 32 = .ok (.aaload, 1) := by decide +kernel
theorem dc_Desk_clerk_33 : decode M_Desk_clerk.2.1 33 = .ok (.astore_n 3, 1) := by decide +kernel
theorem dc_Desk_clerk_34 : decode M_Desk_clerk.2.1 34 = .ok (.aload_n 3, 1) := by decide +kernel
theorem dc_Desk_clerk_35 : decode M_Desk_clerk.2.1 35 = .ok (.invokevirtual 191, 3) := by decide +kernel
theorem dc_Desk_clerk_38 : decode M_Desk_clerk.2.1 38 = .ok (.ifCond .ne 15, 3) := by decide +kernel
theorem dc_Desk_clerk_41 : decode M_Desk_clerk.2.1 41 = .ok (.aload_n 3, 1) := by decide +kernel
theorem dc_Desk_clerk_42 : decode M_Desk_clerk.2.1 42 = .ok (.getfield 194, 3) := by decide +kernel
theorem dc_Desk_clerk_45 : decode M_Desk_clerk.2.1 45 = .ok (.getfield 198, 3) := by decide +kernel
theorem dc_Desk_clerk_48 : decode M_Desk_clerk.2.1 48 = .ok (.bipush 60, 2) := by decide +kernel
theorem dc_Desk_clerk_50 : decode M_Desk_clerk.2.1 50 = .ok (.if_icmp .lt 11, 3) := by decide +kernel
theorem dc_Desk_clerk_53 : decode M_Desk_clerk.2.1 53 = .ok (.new 106, 3) := by decide +kernel
theorem dc_Desk_clerk_56 : decode M_Desk_clerk.2.1 56 = .ok (.dup, 1) := by decide +kernel
theorem dc_Desk_clerk_57 : decode M_Desk_clerk.2.1 57 = .ok (.invokespecial 108, 3) := by decide +kernel
theorem dc_Desk_clerk_60 : decode M_Desk_clerk.2.1 60 = .ok (.athrow, 1) := by decide +kernel
theorem dc_Desk_clerk_61 : decode M_Desk_clerk.2.1 61 = .ok (.aload_n 3, 1) := by decide +kernel
theorem dc_Desk_clerk_62 : decode M_Desk_clerk.2.1 62 = .ok (.getfield 194, 3) := by decide +kernel
theorem dc_Desk_clerk_65 : decode M_Desk_clerk.2.1 65 = .ok (.iload_n 2, 1) := by decide +kernel
theorem dc_Desk_clerk_66 : decode M_Desk_clerk.2.1 66 = .ok (.invokevirtual 203, 3) := by decide +kernel
theorem dc_Desk_clerk_69 : decode M_Desk_clerk.2.1 69 = .ok (.return_, 1) := by decide +kernel
set_option maxRecDepth 20000 in
theorem e_Desk_clerk_0 {d : Nat} {σ : PH} {K : PO → PH → Prop} (x0 : Nat) (x1 : Int32) (x2 : Int32) (h : sh σ x0 = (1, 0) ∧ PW (d + 6) M_Desk_needWithin 0 [.int x1, .int 1, .int (gI σ 6 x0)] [] σ (kV (fun σ1 => PW (d + 6) M_Signs_signOf 0 [.int x2] [] σ1 (kI (fun r1 σ2 => (if r1 = (-1) then cc σ2 + 1 ≤ 601024 ∧ cs σ2 + 6 ≤ 7293034 ∧ K (.inr 0) (bump σ2 1 6) else sh σ2 x0 = (1, 0) ∧ (∃ b1 : Nat, gR σ2 2 x0 = some b1 ∧ (∃ n1 : Nat, sh σ2 b1 = (8, n1) ∧ vp_in (x1 - 1) n1 ∧ (∃ b2 : Nat, eR σ2 b1 (ix (x1 - 1)) = some b2 ∧ sh σ2 b2 = (1, 7) ∧ PW (d + 6) M_Case_isClosed 0 [.ref b2] [] σ2 (kI (fun r2 σ3 => (if r2 = 0 then sh σ3 b2 = (1, 7) ∧ (∃ b3 : Nat, gR σ3 449 b2 = some b3 ∧ sh σ3 b3 = (1, 3) ∧ (if (gI σ3 193 b3) < 60 then PW (d + 6) M_Text_add 0 [.ref b3, .int x2] [] σ3 (kV (fun σ4 => K (.inl none) σ4) K) else cc σ3 + 1 ≤ 601024 ∧ cs σ3 + 6 ≤ 7293034 ∧ K (.inr 1) (bump σ3 1 6))) else cc σ3 + 1 ≤ 601024 ∧ cs σ3 + 6 ≤ 7293034 ∧ K (.inr 1) (bump σ3 1 6))) K)))))) K)) K)) : PW (d + 7) M_Desk_clerk 0 [.ref x0, .int x1, .int x2, uu] [] σ K := by
  refine pw_iload_n dc_Desk_clerk_0 rfl ?_
  refine pw_iconst (v := 1) dc_Desk_clerk_1 (by decide) ?_
  refine pw_aload_n dc_Desk_clerk_2 rfl rfl ?_
  obtain ⟨hs1, h⟩ := h
  refine pw_getI (c := 0) (k := 6) (f := 6) dc_Desk_clerk_3 fl_Desk_179 rfl rfl hs1 ?_
  refine pw_callS (vs := [.int x1, .int 1, .int (gI σ 6 x0)]) (st := []) dc_Desk_clerk_6 cq_Desk_needWithin (List.mem_of_getElem? (i := 402) (by decide +kernel)) (List.mem_of_getElem? (i := 401) (by decide +kernel)) rfl rfl (cat_cons rfl (cat_cons rfl (cat_cons rfl (cat_nil)))) (Nat.le_of_ble_eq_true rfl) (PW.mono (kV_kN (fun σ1 h => ?_)) h)
  refine pw_iload_n dc_Desk_clerk_9 rfl ?_
  refine pw_callS (vs := [.int x2]) (st := []) dc_Desk_clerk_10 cq_Signs_signOf (List.mem_of_getElem? (i := 835) (by decide +kernel)) (List.mem_of_getElem? (i := 932) (by decide +kernel)) rfl rfl (cat_cons rfl (cat_nil)) (Nat.le_of_ble_eq_true rfl) (PW.mono (kI_kN (fun r1 σ2 h => ?_)) h)
  refine pw_iconst (v := (-1)) dc_Desk_clerk_13 (by decide) ?_
  refine pw_icmp_ne (tgt := 25) dc_Desk_clerk_14 (by decide) (fun hc => ?_) (fun hc => ?_)
  · have h := ite_f h hc
    refine pw_aload_n dc_Desk_clerk_25 rfl rfl ?_
    obtain ⟨hs2, h⟩ := h
    refine pw_getR (c := 0) (k := 2) (f := 2) dc_Desk_clerk_26 fl_Desk_23 rfl rfl hs2 ?_
    obtain ⟨b1, hb1, h⟩ := h
    refine PW.top (v' := .ref b1) (congrArg va_rf hb1) ?_
    refine pw_iload_n dc_Desk_clerk_29 rfl ?_
    refine pw_iconst (v := 1) dc_Desk_clerk_30 (by decide) ?_
    refine pw_isub dc_Desk_clerk_31 ?_
    obtain ⟨n1, hs3, h⟩ := h
    obtain ⟨hi1, h⟩ := h
    refine pw_aald (k := 8) dc_Desk_clerk_32 (by unfold rk; decide) hs3 hi1 ?_
    obtain ⟨b2, hb2, h⟩ := h
    refine PW.top (v' := .ref b2) (congrArg va_rf hb2) ?_
    refine pw_astore_n dc_Desk_clerk_33 (by decide) rfl ?_
    refine pw_aload_n dc_Desk_clerk_34 rfl rfl ?_
    obtain ⟨hs4, h⟩ := h
    refine pw_callV (vs := []) (st := []) (b := b2) (cn := 7) dc_Desk_clerk_35 cq_Case_isClosed (List.mem_of_getElem? (i := 390) (by decide +kernel)) (List.mem_of_getElem? (i := 391) (by decide +kernel)) (List.mem_of_getElem? (i := 389) (by decide +kernel)) rfl hs4 rfl rfl (by decide) (cat_nil) (Nat.le_of_ble_eq_true rfl) (PW.mono (kI_kN (fun r2 σ3 h => ?_)) h)
    refine pw_if_ne (tgt := 53) dc_Desk_clerk_38 (by decide) (fun hc => ?_) (fun hc => ?_)
    · have h := ite_f h hc
      obtain ⟨hr1, hr2, h⟩ := h
      exact pw_throw (kd := 1) dc_Desk_clerk_53 dc_Desk_clerk_56 dc_Desk_clerk_57 dc_Desk_clerk_60 (by decide) (List.mem_of_getElem? (i := 719) (by decide +kernel)) ex_tbl1 rfl hr1 hr2 (Nat.le_of_ble_eq_true rfl) h
    · have h := ite_t h hc
      refine pw_aload_n dc_Desk_clerk_41 rfl rfl ?_
      obtain ⟨hs5, h⟩ := h
      refine pw_getR (c := 7) (k := 1) (f := 449) dc_Desk_clerk_42 fl_Desk_194 rfl rfl hs5 ?_
      obtain ⟨b3, hb3, h⟩ := h
      refine PW.top (v' := .ref b3) (congrArg va_rf hb3) ?_
      obtain ⟨hs6, h⟩ := h
      refine pw_getI (c := 3) (k := 1) (f := 193) dc_Desk_clerk_45 fl_Desk_198 rfl rfl hs6 ?_
      refine pw_bipush (v := 60) dc_Desk_clerk_48 (by decide) ?_
      refine pw_icmp_lt (tgt := 61) dc_Desk_clerk_50 (by decide) (fun hc => ?_) (fun hc => ?_)
      · have h := ite_t h hc
        refine pw_aload_n dc_Desk_clerk_61 rfl rfl ?_
        refine pw_getR (c := 7) (k := 1) (f := 449) dc_Desk_clerk_62 fl_Desk_194 rfl rfl hs5 ?_
        refine PW.top (v' := .ref b3) (congrArg va_rf hb3) ?_
        refine pw_iload_n dc_Desk_clerk_65 rfl ?_
        refine pw_callV (vs := [.int x2]) (st := []) (b := b3) (cn := 3) dc_Desk_clerk_66 cq_Text_add (List.mem_of_getElem? (i := 527) (by decide +kernel)) (List.mem_of_getElem? (i := 528) (by decide +kernel)) (List.mem_of_getElem? (i := 933) (by decide +kernel)) rfl hs6 rfl rfl (by decide) (cat_cons rfl (cat_nil)) (Nat.le_of_ble_eq_true rfl) (PW.mono (kV_kN (fun σ4 h => ?_)) h)
        exact pw_vret dc_Desk_clerk_69 rfl h
      · have h := ite_f h hc
        obtain ⟨hr1, hr2, h⟩ := h
        exact pw_throw (kd := 1) dc_Desk_clerk_53 dc_Desk_clerk_56 dc_Desk_clerk_57 dc_Desk_clerk_60 (by decide) (List.mem_of_getElem? (i := 719) (by decide +kernel)) ex_tbl1 rfl hr1 hr2 (Nat.le_of_ble_eq_true rfl) h
  · have h := ite_t h hc
    obtain ⟨hr1, hr2, h⟩ := h
    exact pw_throw (kd := 0) dc_Desk_clerk_17 dc_Desk_clerk_20 dc_Desk_clerk_21 dc_Desk_clerk_24 (by decide) (List.mem_of_getElem? (i := 404) (by decide +kernel)) ex_tbl0 rfl hr1 hr2 (Nat.le_of_ble_eq_true rfl) h
theorem dc_Desk_resubmit_0 : decode M_Desk_resubmit.2.1 0 = .ok (.iload_n 1, 1) := by decide +kernel
theorem dc_Desk_resubmit_1 : decode M_Desk_resubmit.2.1 1 = .ok (.iconst 1, 1) := by decide +kernel
theorem dc_Desk_resubmit_2 : decode M_Desk_resubmit.2.1 2 = .ok (.aload_n 0, 1) := by decide +kernel
theorem dc_Desk_resubmit_3 : decode M_Desk_resubmit.2.1 3 = .ok (.getfield 179, 3) := by decide +kernel
theorem dc_Desk_resubmit_6 : decode M_Desk_resubmit.2.1 6 = .ok (.invokestatic 46, 3) := by decide +kernel
theorem dc_Desk_resubmit_9 : decode M_Desk_resubmit.2.1 9 = .ok (.aload_n 0, 1) := by decide +kernel
theorem dc_Desk_resubmit_10 : decode M_Desk_resubmit.2.1 10 = .ok (.getfield 23, 3) := by decide +kernel
theorem dc_Desk_resubmit_13 : decode M_Desk_resubmit.2.1 13 = .ok (.iload_n 1, 1) := by decide +kernel
theorem dc_Desk_resubmit_14 : decode M_Desk_resubmit.2.1 14 = .ok (.iconst 1, 1) := by decide +kernel
theorem dc_Desk_resubmit_15 : decode M_Desk_resubmit.2.1 15 = .ok (.isub, 1) := by decide +kernel
theorem dc_Desk_resubmit_16 : decode M_Desk_resubmit.2.1 16 = .ok (.aaload, 1) := by decide +kernel
theorem dc_Desk_resubmit_17 : decode M_Desk_resubmit.2.1 17 = .ok (.astore_n 2, 1) := by decide +kernel
theorem dc_Desk_resubmit_18 : decode M_Desk_resubmit.2.1 18 = .ok (.aload_n 2, 1) := by decide +kernel
theorem dc_Desk_resubmit_19 : decode M_Desk_resubmit.2.1 19 = .ok (.invokevirtual 191, 3) := by decide +kernel
theorem dc_Desk_resubmit_22 : decode M_Desk_resubmit.2.1 22 = .ok (.ifCond .ne 12, 3) := by decide +kernel
theorem dc_Desk_resubmit_25 : decode M_Desk_resubmit.2.1 25 = .ok (.aload_n 0, 1) := by decide +kernel
theorem dc_Desk_resubmit_26 : decode M_Desk_resubmit.2.1 26 = .ok (.getfield 166, 3) := by decide +kernel
theorem dc_Desk_resubmit_29 : decode M_Desk_resubmit.2.1 29 = .ok (.bipush 10, 2) := by decide +kernel
theorem dc_Desk_resubmit_31 : decode M_Desk_resubmit.2.1 31 = .ok (.if_icmp .lt 11, 3) := by decide +kernel
theorem dc_Desk_resubmit_34 : decode M_Desk_resubmit.2.1 34 = .ok (.new 106, 3) := by decide +kernel
theorem dc_Desk_resubmit_37 : decode M_Desk_resubmit.2.1 37 = .ok (.dup, 1) := by decide +kernel
theorem dc_Desk_resubmit_38 : decode M_Desk_resubmit.2.1 38 = .ok (.invokespecial 108, 3) := by decide +kernel
theorem dc_Desk_resubmit_41 : decode M_Desk_resubmit.2.1 41 = .ok (.athrow, 1) := by decide +kernel
theorem dc_Desk_resubmit_42 : decode M_Desk_resubmit.2.1 42 = .ok (.aload_n 0, 1) := by decide +kernel
theorem dc_Desk_resubmit_43 : decode M_Desk_resubmit.2.1 43 = .ok (.getfield 37, 3) := by decide +kernel
theorem dc_Desk_resubmit_46 : decode M_Desk_resubmit.2.1 46 = .ok (.aload_n 2, 1) := by decide +kernel
theorem dc_Desk_resubmit_47 : decode M_Desk_resubmit.2.1 47 = .ok (.getfield 194, 3) := by decide +kernel
theorem dc_Desk_resubmit_50 : decode M_Desk_resubmit.2.1 50 = .ok (.iconst 0, 1) := by decide +kernel
theorem dc_Desk_resubmit_51 : decode M_Desk_resubmit.2.1 51 = .ok (.invokevirtual 207, 3) := by decide +kernel
theorem dc_Desk_resubmit_54 : decode M_Desk_resubmit.2.1 54 = .ok (.istore_n 3, 1) := by decide +kernel
theorem dc_Desk_resubmit_55 : decode M_Desk_resubmit.2.1 55 = .ok (.iload_n 3, 1) := by decide +kernel
theorem dc_Desk_resubmit_56 : decode M_Desk_resubmit.2.1 56 = .ok (.ifCond .ne 12, 3) := by decide +kernel
theorem dc_Desk_resubmit_59 : decode M_Desk_resubmit.2.1 59 = .ok (.aload_n 0, 1) := by decide +kernel
theorem dc_Desk_resubmit_60 : decode M_Desk_resubmit.2.1 60 = .ok (.aload_n 2, 1) := by decide +kernel
theorem dc_Desk_resubmit_61 : decode M_Desk_resubmit.2.1 61 = .ok (.getfield 194, 3) := by decide +kernel
theorem dc_Desk_resubmit_64 : decode M_Desk_resubmit.2.1 64 = .ok (.invokevirtual 211, 3) := by decide +kernel
theorem dc_Desk_resubmit_67 : decode M_Desk_resubmit.2.1 67 = .ok (.istore_n 3, 1) := by decide +kernel
theorem dc_Desk_resubmit_68 : decode M_Desk_resubmit.2.1 68 = .ok (.aload_n 2, 1) := by decide +kernel
theorem dc_Desk_resubmit_69 : decode M_Desk_resubmit.2.1 69 = .ok (.getfield 194, 3) := by decide +kernel
theorem dc_Desk_resubmit_72 : decode M_Desk_resubmit.2.1 72 = .ok (.invokevirtual 215, 3) := by decide +kernel
theorem dc_Desk_resubmit_75 : decode M_Desk_resubmit.2.1 75 = .ok (.aload_n 2, 1) := by decide +kernel
theorem dc_Desk_resubmit_76 : decode M_Desk_resubmit.2.1 76 = .ok (.iload_n 3, 1) := by decide +kernel
theorem dc_Desk_resubmit_77 : decode M_Desk_resubmit.2.1 77 = .ok (.putfield 182, 3) := by decide +kernel
theorem dc_Desk_resubmit_80 : decode M_Desk_resubmit.2.1 80 = .ok (.iload_n 3, 1) := by decide +kernel
theorem dc_Desk_resubmit_81 : decode M_Desk_resubmit.2.1 81 = .ok (.ireturn, 1) := by decide +kernel
set_option maxRecDepth 20000 in
theorem e_Desk_resubmit_0 {d : Nat} {σ : PH} {K : PO → PH → Prop} (x0 : Nat) (x1 : Int32) (h : sh σ x0 = (1, 0) ∧ PW (d + 6) M_Desk_needWithin 0 [.int x1, .int 1, .int (gI σ 6 x0)] [] σ (kV (fun σ1 => sh σ1 x0 = (1, 0) ∧ (∃ b1 : Nat, gR σ1 2 x0 = some b1 ∧ (∃ n1 : Nat, sh σ1 b1 = (8, n1) ∧ vp_in (x1 - 1) n1 ∧ (∃ b2 : Nat, eR σ1 b1 (ix (x1 - 1)) = some b2 ∧ sh σ1 b2 = (1, 7) ∧ PW (d + 6) M_Case_isClosed 0 [.ref b2] [] σ1 (kI (fun r1 σ2 => (if r1 = 0 then sh σ2 x0 = (1, 0) ∧ (if (gI σ2 5 x0) < 10 then (∃ b3 : Nat, gR σ2 4 x0 = some b3 ∧ sh σ2 b2 = (1, 7) ∧ (∃ b4 : Nat, gR σ2 449 b2 = some b4 ∧ sh σ2 b3 = (1, 10) ∧ PW (d + 6) M_Header_faultIn 0 [.ref b3, .ref b4, .int 0, uu] [] σ2 (kI (fun r2 σ3 => (if r2 = 0 then sh σ3 b2 = (1, 7) ∧ (∃ b6 : Nat, gR σ3 449 b2 = some b6 ∧ sh σ3 x0 = (1, 0) ∧ PW (d + 6) M_Desk_fileIfAllLeadSomewhere 0 [.ref x0, .ref b6, uu] [] σ3 (kI (fun r3 σ6 => sh σ6 b2 = (1, 7) ∧ (∃ b7 : Nat, gR σ6 449 b2 = some b7 ∧ sh σ6 b7 = (1, 3) ∧ PW (d + 6) M_Text_clear 0 [.ref b7] [] σ6 (kV (fun σ7 => sh σ7 b2 = (1, 7) ∧ (∀ σ8 : PH, σ8 = pI σ7 448 b2 r3 → K (.inl (some (.int r3))) σ8)) K))) K)) else sh σ3 b2 = (1, 7) ∧ (∃ b5 : Nat, gR σ3 449 b2 = some b5 ∧ sh σ3 b5 = (1, 3) ∧ PW (d + 6) M_Text_clear 0 [.ref b5] [] σ3 (kV (fun σ4 => sh σ4 b2 = (1, 7) ∧ (∀ σ5 : PH, σ5 = pI σ4 448 b2 r2 → K (.inl (some (.int r2))) σ5)) K)))) K))) else cc σ2 + 1 ≤ 601024 ∧ cs σ2 + 6 ≤ 7293034 ∧ K (.inr 1) (bump σ2 1 6)) else cc σ2 + 1 ≤ 601024 ∧ cs σ2 + 6 ≤ 7293034 ∧ K (.inr 1) (bump σ2 1 6))) K))))) K)) : PW (d + 7) M_Desk_resubmit 0 [.ref x0, .int x1, uu, uu] [] σ K := by
  refine pw_iload_n dc_Desk_resubmit_0 rfl ?_
  refine pw_iconst (v := 1) dc_Desk_resubmit_1 (by decide) ?_
  refine pw_aload_n dc_Desk_resubmit_2 rfl rfl ?_
  obtain ⟨hs1, h⟩ := h
  refine pw_getI (c := 0) (k := 6) (f := 6) dc_Desk_resubmit_3 fl_Desk_179 rfl rfl hs1 ?_
  refine pw_callS (vs := [.int x1, .int 1, .int (gI σ 6 x0)]) (st := []) dc_Desk_resubmit_6 cq_Desk_needWithin (List.mem_of_getElem? (i := 402) (by decide +kernel)) (List.mem_of_getElem? (i := 401) (by decide +kernel)) rfl rfl (cat_cons rfl (cat_cons rfl (cat_cons rfl (cat_nil)))) (Nat.le_of_ble_eq_true rfl) (PW.mono (kV_kN (fun σ1 h => ?_)) h)
  refine pw_aload_n dc_Desk_resubmit_9 rfl rfl ?_
  obtain ⟨hs2, h⟩ := h
  refine pw_getR (c := 0) (k := 2) (f := 2) dc_Desk_resubmit_10 fl_Desk_23 rfl rfl hs2 ?_
  obtain ⟨b1, hb1, h⟩ := h
  refine PW.top (v' := .ref b1) (congrArg va_rf hb1) ?_
  refine pw_iload_n dc_Desk_resubmit_13 rfl ?_
  refine pw_iconst (v := 1) dc_Desk_resubmit_14 (by decide) ?_
  refine pw_isub dc_Desk_resubmit_15 ?_
  obtain ⟨n1, hs3, h⟩ := h
  obtain ⟨hi1, h⟩ := h
  refine pw_aald (k := 8) dc_Desk_resubmit_16 (by unfold rk; decide) hs3 hi1 ?_
  obtain ⟨b2, hb2, h⟩ := h
  refine PW.top (v' := .ref b2) (congrArg va_rf hb2) ?_
  refine pw_astore_n dc_Desk_resubmit_17 (by decide) rfl ?_
  refine pw_aload_n dc_Desk_resubmit_18 rfl rfl ?_
  obtain ⟨hs4, h⟩ := h
  refine pw_callV (vs := []) (st := []) (b := b2) (cn := 7) dc_Desk_resubmit_19 cq_Case_isClosed (List.mem_of_getElem? (i := 390) (by decide +kernel)) (List.mem_of_getElem? (i := 391) (by decide +kernel)) (List.mem_of_getElem? (i := 389) (by decide +kernel)) rfl hs4 rfl rfl (by decide) (cat_nil) (Nat.le_of_ble_eq_true rfl) (PW.mono (kI_kN (fun r1 σ2 h => ?_)) h)
  refine pw_if_ne (tgt := 34) dc_Desk_resubmit_22 (by decide) (fun hc => ?_) (fun hc => ?_)
  · have h := ite_f h hc
    obtain ⟨hr1, hr2, h⟩ := h
    exact pw_throw (kd := 1) dc_Desk_resubmit_34 dc_Desk_resubmit_37 dc_Desk_resubmit_38 dc_Desk_resubmit_41 (by decide) (List.mem_of_getElem? (i := 719) (by decide +kernel)) ex_tbl1 rfl hr1 hr2 (Nat.le_of_ble_eq_true rfl) h
  · have h := ite_t h hc
    refine pw_aload_n dc_Desk_resubmit_25 rfl rfl ?_
    obtain ⟨hs5, h⟩ := h
    refine pw_getI (c := 0) (k := 5) (f := 5) dc_Desk_resubmit_26 fl_Desk_166 rfl rfl hs5 ?_
    refine pw_bipush (v := 10) dc_Desk_resubmit_29 (by decide) ?_
    refine pw_icmp_lt (tgt := 42) dc_Desk_resubmit_31 (by decide) (fun hc => ?_) (fun hc => ?_)
    · have h := ite_t h hc
      refine pw_aload_n dc_Desk_resubmit_42 rfl rfl ?_
      refine pw_getR (c := 0) (k := 4) (f := 4) dc_Desk_resubmit_43 fl_Desk_37 rfl rfl hs5 ?_
      obtain ⟨b3, hb3, h⟩ := h
      refine PW.top (v' := .ref b3) (congrArg va_rf hb3) ?_
      refine pw_aload_n dc_Desk_resubmit_46 rfl rfl ?_
      obtain ⟨hs6, h⟩ := h
      refine pw_getR (c := 7) (k := 1) (f := 449) dc_Desk_resubmit_47 fl_Desk_194 rfl rfl hs6 ?_
      obtain ⟨b4, hb4, h⟩ := h
      refine PW.top (v' := .ref b4) (congrArg va_rf hb4) ?_
      refine pw_iconst (v := 0) dc_Desk_resubmit_50 (by decide) ?_
      obtain ⟨hs7, h⟩ := h
      refine pw_callV (vs := [.ref b4, .int 0]) (st := []) (b := b3) (cn := 10) dc_Desk_resubmit_51 cq_Header_faultIn (List.mem_of_getElem? (i := 551) (by decide +kernel)) (List.mem_of_getElem? (i := 552) (by decide +kernel)) (List.mem_of_getElem? (i := 550) (by decide +kernel)) rfl hs7 rfl rfl (by decide) (cat_cons rfl (cat_cons rfl (cat_nil))) (Nat.le_of_ble_eq_true rfl) (PW.mono (kI_kN (fun r2 σ3 h => ?_)) h)
      refine pw_istore_n dc_Desk_resubmit_54 (by decide) ?_
      refine pw_iload_n dc_Desk_resubmit_55 rfl ?_
      refine pw_if_ne (tgt := 68) dc_Desk_resubmit_56 (by decide) (fun hc => ?_) (fun hc => ?_)
      · have h := ite_f h hc
        refine pw_aload_n dc_Desk_resubmit_68 rfl rfl ?_
        obtain ⟨hs8, h⟩ := h
        refine pw_getR (c := 7) (k := 1) (f := 449) dc_Desk_resubmit_69 fl_Desk_194 rfl rfl hs8 ?_
        obtain ⟨b5, hb5, h⟩ := h
        refine PW.top (v' := .ref b5) (congrArg va_rf hb5) ?_
        obtain ⟨hs9, h⟩ := h
        refine pw_callV (vs := []) (st := []) (b := b5) (cn := 3) dc_Desk_resubmit_72 cq_Text_clear (List.mem_of_getElem? (i := 374) (by decide +kernel)) (List.mem_of_getElem? (i := 375) (by decide +kernel)) (List.mem_of_getElem? (i := 945) (by decide +kernel)) rfl hs9 rfl rfl (by decide) (cat_nil) (Nat.le_of_ble_eq_true rfl) (PW.mono (kV_kN (fun σ4 h => ?_)) h)
        refine pw_aload_n dc_Desk_resubmit_75 rfl rfl ?_
        refine pw_iload_n dc_Desk_resubmit_76 rfl ?_
        obtain ⟨hs10, h⟩ := h
        have h := h _ rfl
        refine pw_putI (c := 7) (k := 0) (f := 448) dc_Desk_resubmit_77 fl_Desk_182 (Or.inl rfl) rfl rfl hs10 ?_
        refine pw_iload_n dc_Desk_resubmit_80 rfl ?_
        exact pw_iret dc_Desk_resubmit_81 rfl rfl h
      · have h := ite_t h hc
        refine pw_aload_n dc_Desk_resubmit_59 rfl rfl ?_
        refine pw_aload_n dc_Desk_resubmit_60 rfl rfl ?_
        obtain ⟨hs11, h⟩ := h
        refine pw_getR (c := 7) (k := 1) (f := 449) dc_Desk_resubmit_61 fl_Desk_194 rfl rfl hs11 ?_
        obtain ⟨b6, hb6, h⟩ := h
        refine PW.top (v' := .ref b6) (congrArg va_rf hb6) ?_
        obtain ⟨hs12, h⟩ := h
        refine pw_callV (vs := [.ref b6]) (st := []) (b := x0) (cn := 0) dc_Desk_resubmit_64 cq_Desk_fileIfAllLeadSomewhere (List.mem_of_getElem? (i := 943) (by decide +kernel)) (List.mem_of_getElem? (i := 25) (by decide +kernel)) (List.mem_of_getElem? (i := 941) (by decide +kernel)) rfl hs12 rfl rfl (by decide) (cat_cons rfl (cat_nil)) (Nat.le_of_ble_eq_true rfl) (PW.mono (kI_kN (fun r3 σ6 h => ?_)) h)
        refine pw_istore_n dc_Desk_resubmit_67 (by decide) ?_
        refine pw_aload_n dc_Desk_resubmit_68 rfl rfl ?_
        obtain ⟨hs13, h⟩ := h
        refine pw_getR (c := 7) (k := 1) (f := 449) dc_Desk_resubmit_69 fl_Desk_194 rfl rfl hs13 ?_
        obtain ⟨b7, hb7, h⟩ := h
        refine PW.top (v' := .ref b7) (congrArg va_rf hb7) ?_
        obtain ⟨hs14, h⟩ := h
        refine pw_callV (vs := []) (st := []) (b := b7) (cn := 3) dc_Desk_resubmit_72 cq_Text_clear (List.mem_of_getElem? (i := 374) (by decide +kernel)) (List.mem_of_getElem? (i := 375) (by decide +kernel)) (List.mem_of_getElem? (i := 945) (by decide +kernel)) rfl hs14 rfl rfl (by decide) (cat_nil) (Nat.le_of_ble_eq_true rfl) (PW.mono (kV_kN (fun σ7 h => ?_)) h)
        refine pw_aload_n dc_Desk_resubmit_75 rfl rfl ?_
        refine pw_iload_n dc_Desk_resubmit_76 rfl ?_
        obtain ⟨hs15, h⟩ := h
        have h := h _ rfl
        refine pw_putI (c := 7) (k := 0) (f := 448) dc_Desk_resubmit_77 fl_Desk_182 (Or.inl rfl) rfl rfl hs15 ?_
        refine pw_iload_n dc_Desk_resubmit_80 rfl ?_
        exact pw_iret dc_Desk_resubmit_81 rfl rfl h
    · have h := ite_f h hc
      obtain ⟨hr1, hr2, h⟩ := h
      exact pw_throw (kd := 1) dc_Desk_resubmit_34 dc_Desk_resubmit_37 dc_Desk_resubmit_38 dc_Desk_resubmit_41 (by decide) (List.mem_of_getElem? (i := 719) (by decide +kernel)) ex_tbl1 rfl hr1 hr2 (Nat.le_of_ble_eq_true rfl) h
theorem dc_Desk_cut_0 : decode M_Desk_cut.2.1 0 = .ok (.iconst 0, 1) := by decide +kernel
theorem dc_Desk_cut_1 : decode M_Desk_cut.2.1 1 = .ok (.istore_n 1, 1) := by decide +kernel
theorem dc_Desk_cut_2 : decode M_Desk_cut.2.1 2 = .ok (.iload_n 1, 1) := by decide +kernel
theorem dc_Desk_cut_3 : decode M_Desk_cut.2.1 3 = .ok (.bipush 8, 2) := by decide +kernel
theorem dc_Desk_cut_5 : decode M_Desk_cut.2.1 5 = .ok (.if_icmp .ge 18, 3) := by decide +kernel
theorem dc_Desk_cut_8 : decode M_Desk_cut.2.1 8 = .ok (.aload_n 0, 1) := by decide +kernel
theorem dc_Desk_cut_9 : decode M_Desk_cut.2.1 9 = .ok (.getfield 11, 3) := by decide +kernel
theorem dc_Desk_cut_12 : decode M_Desk_cut.2.1 12 = .ok (.iload_n 1, 1) := by decide +kernel
theorem dc_Desk_cut_13 : decode M_Desk_cut.2.1 13 = .ok (.aaload, 1) := by decide +kernel
theorem dc_Desk_cut_14 : decode M_Desk_cut.2.1 14 = .ok (.invokevirtual 131, 3) := by decide +kernel
theorem dc_Desk_cut_17 : decode M_Desk_cut.2.1 17 = .ok (.iinc 1 1, 3) := by decide +kernel
theorem dc_Desk_cut_20 : decode M_Desk_cut.2.1 20 = .ok (.goto (-18), 3) := by decide +kernel
theorem dc_Desk_cut_23 : decode M_Desk_cut.2.1 23 = .ok (.return_, 1) := by decide +kernel
set_option maxRecDepth 20000 in
theorem e_Desk_cut_0 {d : Nat} {σ : PH} {K : PO → PH → Prop} (x0 : Nat) (h : PW (d + 1) M_Desk_cut 2 [.ref x0, .int 0] [] σ K) : PW (d + 1) M_Desk_cut 0 [.ref x0, uu] [] σ K := by
  refine pw_iconst (v := 0) dc_Desk_cut_0 (by decide) ?_
  refine pw_istore_n dc_Desk_cut_1 (by decide) ?_
  exact h
set_option maxRecDepth 20000 in
theorem e_Desk_cut_2 {d : Nat} {σ : PH} {K : PO → PH → Prop} (x0 : Nat) (x1 : Int32) (h : (if 8 ≤ x1 then K (.inl none) σ else sh σ x0 = (1, 0) ∧ (∃ b1 : Nat, gR σ 0 x0 = some b1 ∧ (∃ n1 : Nat, sh σ b1 = (6, n1) ∧ vp_in x1 n1 ∧ (∃ b2 : Nat, eR σ b1 (ix x1) = some b2 ∧ sh σ b2 = (1, 1) ∧ PW d M_Channel_loseWhatIsUnderWay 0 [.ref b2] [] σ (kV (fun σ1 => PW (d + 1) M_Desk_cut 2 [.ref x0, .int (x1 + 1)] [] σ1 K) K)))))) : PW (d + 1) M_Desk_cut 2 [.ref x0, .int x1] [] σ K := by
  refine pw_iload_n dc_Desk_cut_2 rfl ?_
  refine pw_bipush (v := 8) dc_Desk_cut_3 (by decide) ?_
  refine pw_icmp_ge (tgt := 23) dc_Desk_cut_5 (by decide) (fun hc => ?_) (fun hc => ?_)
  · have h := ite_t h hc
    exact pw_vret dc_Desk_cut_23 rfl h
  · have h := ite_f h hc
    refine pw_aload_n dc_Desk_cut_8 rfl rfl ?_
    obtain ⟨hs1, h⟩ := h
    refine pw_getR (c := 0) (k := 0) (f := 0) dc_Desk_cut_9 fl_Desk_11 rfl rfl hs1 ?_
    obtain ⟨b1, hb1, h⟩ := h
    refine PW.top (v' := .ref b1) (congrArg va_rf hb1) ?_
    refine pw_iload_n dc_Desk_cut_12 rfl ?_
    obtain ⟨n1, hs2, h⟩ := h
    obtain ⟨hi1, h⟩ := h
    refine pw_aald (k := 6) dc_Desk_cut_13 (by unfold rk; decide) hs2 hi1 ?_
    obtain ⟨b2, hb2, h⟩ := h
    refine PW.top (v' := .ref b2) (congrArg va_rf hb2) ?_
    obtain ⟨hs3, h⟩ := h
    refine pw_callV (vs := []) (st := []) (b := b2) (cn := 1) dc_Desk_cut_14 cq_Channel_loseWhatIsUnderWay (List.mem_of_getElem? (i := 366) (by decide +kernel)) (List.mem_of_getElem? (i := 367) (by decide +kernel)) (List.mem_of_getElem? (i := 365) (by decide +kernel)) rfl hs3 rfl rfl (by decide) (cat_nil) (Nat.le_of_ble_eq_true rfl) (PW.mono (kV_kN (fun σ1 h => ?_)) h)
    refine pw_iincv (v := 1) dc_Desk_cut_17 (by decide) rfl (by decide) ?_
    refine pw_goto (tgt := 2) dc_Desk_cut_20 (by decide) ?_
    exact h
theorem dc_Desk_count_0 : decode M_Desk_count.2.1 0 = .ok (.iload_n 1, 1) := by decide +kernel
theorem dc_Desk_count_28 : decode M_Desk_count.2.1 28 = .ok (.aload_n 0, 1) := by decide +kernel
theorem dc_Desk_count_29 : decode M_Desk_count.2.1 29 = .ok (.getfield 166, 3) := by decide +kernel
theorem dc_Desk_count_32 : decode M_Desk_count.2.1 32 = .ok (.ireturn, 1) := by decide +kernel
theorem dc_Desk_count_33 : decode M_Desk_count.2.1 33 = .ok (.aload_n 0, 1) := by decide +kernel
theorem dc_Desk_count_34 : decode M_Desk_count.2.1 34 = .ok (.getfield 179, 3) := by decide +kernel
theorem dc_Desk_count_37 : decode M_Desk_count.2.1 37 = .ok (.ireturn, 1) := by decide +kernel
theorem dc_Desk_count_38 : decode M_Desk_count.2.1 38 = .ok (.aload_n 0, 1) := by decide +kernel
theorem dc_Desk_count_39 : decode M_Desk_count.2.1 39 = .ok (.invokevirtual 218, 3) := by decide +kernel
theorem dc_Desk_count_42 : decode M_Desk_count.2.1 42 = .ok (.ireturn, 1) := by decide +kernel
theorem dc_Desk_count_43 : decode M_Desk_count.2.1 43 = .ok (.iconst (-1), 1) := by decide +kernel
theorem dc_Desk_count_44 : decode M_Desk_count.2.1 44 = .ok (.ireturn, 1) := by decide +kernel
set_option maxRecDepth 20000 in
theorem e_Desk_count_0 {d : Nat} {σ : PH} {K : PO → PH → Prop} (x0 : Nat) (x1 : Int32) (h : PW (d + 1) M_Desk_count 1 [.ref x0, uu] [.int x1] σ K) : PW (d + 1) M_Desk_count 0 [.ref x0, .int x1] [] σ K := by
  refine pw_iload_n dc_Desk_count_0 rfl ?_
  refine PW.drop (ls' := [.ref x0, uu]) ⟨Or.inl rfl, Or.inr rfl, trivial⟩ ?_
  exact h
set_option maxRecDepth 20000 in
theorem e_Desk_count_28 {d : Nat} {σ : PH} {K : PO → PH → Prop} (x0 : Nat) (h : sh σ x0 = (1, 0) ∧ K (.inl (some (.int (gI σ 5 x0)))) σ) : PW (d + 1) M_Desk_count 28 [.ref x0, uu] [] σ K := by
  refine pw_aload_n dc_Desk_count_28 rfl rfl ?_
  obtain ⟨hs1, h⟩ := h
  refine pw_getI (c := 0) (k := 5) (f := 5) dc_Desk_count_29 fl_Desk_166 rfl rfl hs1 ?_
  exact pw_iret dc_Desk_count_32 rfl rfl h
set_option maxRecDepth 20000 in
theorem e_Desk_count_33 {d : Nat} {σ : PH} {K : PO → PH → Prop} (x0 : Nat) (h : sh σ x0 = (1, 0) ∧ K (.inl (some (.int (gI σ 6 x0)))) σ) : PW (d + 1) M_Desk_count 33 [.ref x0, uu] [] σ K := by
  refine pw_aload_n dc_Desk_count_33 rfl rfl ?_
  obtain ⟨hs1, h⟩ := h
  refine pw_getI (c := 0) (k := 6) (f := 6) dc_Desk_count_34 fl_Desk_179 rfl rfl hs1 ?_
  exact pw_iret dc_Desk_count_37 rfl rfl h
set_option maxRecDepth 20000 in
theorem e_Desk_count_38 {d : Nat} {σ : PH} {K : PO → PH → Prop} (x0 : Nat) (h : sh σ x0 = (1, 0) ∧ PW d M_Desk_casesNotClosed 0 [.ref x0, uu, uu] [] σ (kI (fun r1 σ1 => K (.inl (some (.int r1))) σ1) K)) : PW (d + 1) M_Desk_count 38 [.ref x0, uu] [] σ K := by
  refine pw_aload_n dc_Desk_count_38 rfl rfl ?_
  obtain ⟨hs1, h⟩ := h
  refine pw_callV (vs := []) (st := []) (b := x0) (cn := 0) dc_Desk_count_39 cq_Desk_casesNotClosed (List.mem_of_getElem? (i := 387) (by decide +kernel)) (List.mem_of_getElem? (i := 0) (by decide +kernel)) (List.mem_of_getElem? (i := 385) (by decide +kernel)) rfl hs1 rfl rfl (by decide) (cat_nil) (Nat.le_of_ble_eq_true rfl) (PW.mono (kI_kN (fun r1 σ1 h => ?_)) h)
  exact pw_iret dc_Desk_count_42 rfl rfl h
set_option maxRecDepth 20000 in
theorem e_Desk_count_43 {d : Nat} {σ : PH} {K : PO → PH → Prop}  (h : K (.inl (some (.int ((-1))))) σ) : PW (d + 1) M_Desk_count 43 [uu, uu] [] σ K := by
  refine pw_iconst (v := (-1)) dc_Desk_count_43 (by decide) ?_
  exact pw_iret dc_Desk_count_44 rfl rfl h
theorem dc_Desk_needWithin_0 : decode M_Desk_needWithin.2.1 0 = .ok (.iload_n 0, 1) := by decide +kernel
theorem dc_Desk_needWithin_1 : decode M_Desk_needWithin.2.1 1 = .ok (.iload_n 1, 1) := by decide +kernel
theorem dc_Desk_needWithin_2 : decode M_Desk_needWithin.2.1 2 = .ok (.if_icmp .lt 8, 3) := by decide +kernel
theorem dc_Desk_needWithin_5 : decode M_Desk_needWithin.2.1 5 = .ok (.iload_n 0, 1) := by decide +kernel
theorem dc_Desk_needWithin_6 : decode M_Desk_needWithin.2.1 6 = .ok (.iload_n 2, 1) := by decide +kernel
theorem dc_Desk_needWithin_7 : decode M_Desk_needWithin.2.1 7 = .ok (.if_icmp .le 11, 3) := by decide +kernel
theorem dc_Desk_needWithin_10 : decode M_Desk_needWithin.2.1 10 = .ok (.new 100, 3) := by decide +kernel
theorem dc_Desk_needWithin_13 : decode M_Desk_needWithin.2.1 13 = .ok (.dup, 1) := by decide +kernel
theorem dc_Desk_needWithin_14 : decode M_Desk_needWithin.2.1 14 = .ok (.invokespecial 102, 3) := by decide +kernel
theorem dc_Desk_needWithin_17 : decode M_Desk_needWithin.2.1 17 = .ok (.athrow, 1) := by decide +kernel
theorem dc_Desk_needWithin_18 : decode M_Desk_needWithin.2.1 18 = .ok (.return_, 1) := by decide +kernel
set_option maxRecDepth 20000 in
theorem e_Desk_needWithin_0 {d : Nat} {σ : PH} {K : PO → PH → Prop} (x0 : Int32) (x1 : Int32) (x2 : Int32) (h : (if x0 < x1 then cc σ + 1 ≤ 601024 ∧ cs σ + 6 ≤ 7293034 ∧ K (.inr 0) (bump σ 1 6) else (if x0 ≤ x2 then K (.inl none) σ else cc σ + 1 ≤ 601024 ∧ cs σ + 6 ≤ 7293034 ∧ K (.inr 0) (bump σ 1 6)))) : PW (d + 6) M_Desk_needWithin 0 [.int x0, .int x1, .int x2] [] σ K := by
  refine pw_iload_n dc_Desk_needWithin_0 rfl ?_
  refine pw_iload_n dc_Desk_needWithin_1 rfl ?_
  refine pw_icmp_lt (tgt := 10) dc_Desk_needWithin_2 (by decide) (fun hc => ?_) (fun hc => ?_)
  · have h := ite_t h hc
    obtain ⟨hr1, hr2, h⟩ := h
    exact pw_throw (kd := 0) dc_Desk_needWithin_10 dc_Desk_needWithin_13 dc_Desk_needWithin_14 dc_Desk_needWithin_17 (by decide) (List.mem_of_getElem? (i := 404) (by decide +kernel)) ex_tbl0 rfl hr1 hr2 (Nat.le_of_ble_eq_true rfl) h
  · have h := ite_f h hc
    refine pw_iload_n dc_Desk_needWithin_5 rfl ?_
    refine pw_iload_n dc_Desk_needWithin_6 rfl ?_
    refine pw_icmp_le (tgt := 18) dc_Desk_needWithin_7 (by decide) (fun hc => ?_) (fun hc => ?_)
    · have h := ite_t h hc
      exact pw_vret dc_Desk_needWithin_18 rfl h
    · have h := ite_f h hc
      obtain ⟨hr1, hr2, h⟩ := h
      exact pw_throw (kd := 0) dc_Desk_needWithin_10 dc_Desk_needWithin_13 dc_Desk_needWithin_14 dc_Desk_needWithin_17 (by decide) (List.mem_of_getElem? (i := 404) (by decide +kernel)) ex_tbl0 rfl hr1 hr2 (Nat.le_of_ble_eq_true rfl) h
theorem dc_Desk_handIn_0 : decode M_Desk_handIn.2.1 0 = .ok (.aload_n 1, 1) := by decide +kernel
theorem dc_Desk_handIn_1 : decode M_Desk_handIn.2.1 1 = .ok (.getfield 54, 3) := by decide +kernel
theorem dc_Desk_handIn_4 : decode M_Desk_handIn.2.1 4 = .ok (.invokevirtual 221, 3) := by decide +kernel
theorem dc_Desk_handIn_7 : decode M_Desk_handIn.2.1 7 = .ok (.astore_n 2, 1) := by decide +kernel
theorem dc_Desk_handIn_8 : decode M_Desk_handIn.2.1 8 = .ok (.aload_n 0, 1) := by decide +kernel
theorem dc_Desk_handIn_9 : decode M_Desk_handIn.2.1 9 = .ok (.getfield 37, 3) := by decide +kernel
theorem dc_Desk_handIn_12 : decode M_Desk_handIn.2.1 12 = .ok (.aload_n 2, 1) := by decide +kernel
theorem dc_Desk_handIn_13 : decode M_Desk_handIn.2.1 13 = .ok (.aload_n 1, 1) := by decide +kernel
theorem dc_Desk_handIn_14 : decode M_Desk_handIn.2.1 14 = .ok (.getfield 54, 3) := by decide +kernel
theorem dc_Desk_handIn_17 : decode M_Desk_handIn.2.1 17 = .ok (.invokevirtual 225, 3) := by decide +kernel
theorem dc_Desk_handIn_20 : decode M_Desk_handIn.2.1 20 = .ok (.invokevirtual 207, 3) := by decide +kernel
theorem dc_Desk_handIn_23 : decode M_Desk_handIn.2.1 23 = .ok (.istore_n 3, 1) := by decide +kernel
theorem dc_Desk_handIn_24 : decode M_Desk_handIn.2.1 24 = .ok (.iload_n 3, 1) := by decide +kernel
theorem dc_Desk_handIn_25 : decode M_Desk_handIn.2.1 25 = .ok (.iconst 1, 1) := by decide +kernel
theorem dc_Desk_handIn_26 : decode M_Desk_handIn.2.1 26 = .ok (.if_icmp .ne 10, 3) := by decide +kernel
theorem dc_Desk_handIn_29 : decode M_Desk_handIn.2.1 29 = .ok (.aload_n 0, 1) := by decide +kernel
theorem dc_Desk_handIn_30 : decode M_Desk_handIn.2.1 30 = .ok (.iload_n 3, 1) := by decide +kernel
theorem dc_Desk_handIn_31 : decode M_Desk_handIn.2.1 31 = .ok (.invokevirtual 228, 3) := by decide +kernel
theorem dc_Desk_handIn_34 : decode M_Desk_handIn.2.1 34 = .ok (.iconst 3, 1) := by decide +kernel
theorem dc_Desk_handIn_35 : decode M_Desk_handIn.2.1 35 = .ok (.ireturn, 1) := by decide +kernel
theorem dc_Desk_handIn_36 : decode M_Desk_handIn.2.1 36 = .ok (.aload_n 1, 1) := by decide +kernel
theorem dc_Desk_handIn_37 : decode M_Desk_handIn.2.1 37 = .ok (.getfield 71, 3) := by decide +kernel
theorem dc_Desk_handIn_40 : decode M_Desk_handIn.2.1 40 = .ok (.aload_n 0, 1) := by decide +kernel
theorem dc_Desk_handIn_41 : decode M_Desk_handIn.2.1 41 = .ok (.getfield 37, 3) := by decide +kernel
theorem dc_Desk_handIn_44 : decode M_Desk_handIn.2.1 44 = .ok (.getfield 231, 3) := by decide +kernel
theorem dc_Desk_handIn_47 : decode M_Desk_handIn.2.1 47 = .ok (.invokevirtual 234, 3) := by decide +kernel
theorem dc_Desk_handIn_50 : decode M_Desk_handIn.2.1 50 = .ok (.ifCond .ne 5, 3) := by decide +kernel
theorem dc_Desk_handIn_53 : decode M_Desk_handIn.2.1 53 = .ok (.iconst 2, 1) := by decide +kernel
theorem dc_Desk_handIn_54 : decode M_Desk_handIn.2.1 54 = .ok (.ireturn, 1) := by decide +kernel
theorem dc_Desk_handIn_55 : decode M_Desk_handIn.2.1 55 = .ok (.aload_n 0, 1) := by decide +kernel
theorem dc_Desk_handIn_56 : decode M_Desk_handIn.2.1 56 = .ok (.getfield 166, 3) := by decide +kernel
theorem dc_Desk_handIn_59 : decode M_Desk_handIn.2.1 59 = .ok (.bipush 10, 2) := by decide +kernel
theorem dc_Desk_handIn_61 : decode M_Desk_handIn.2.1 61 = .ok (.if_icmp .lt 5, 3) := by decide +kernel
theorem dc_Desk_handIn_64 : decode M_Desk_handIn.2.1 64 = .ok (.iconst 4, 1) := by decide +kernel
theorem dc_Desk_handIn_65 : decode M_Desk_handIn.2.1 65 = .ok (.ireturn, 1) := by decide +kernel
theorem dc_Desk_handIn_66 : decode M_Desk_handIn.2.1 66 = .ok (.aload_n 1, 1) := by decide +kernel
theorem dc_Desk_handIn_67 : decode M_Desk_handIn.2.1 67 = .ok (.getfield 71, 3) := by decide +kernel
theorem dc_Desk_handIn_70 : decode M_Desk_handIn.2.1 70 = .ok (.aload_n 0, 1) := by decide +kernel
theorem dc_Desk_handIn_71 : decode M_Desk_handIn.2.1 71 = .ok (.getfield 37, 3) := by decide +kernel
theorem dc_Desk_handIn_74 : decode M_Desk_handIn.2.1 74 = .ok (.getfield 231, 3) := by decide +kernel
theorem dc_Desk_handIn_77 : decode M_Desk_handIn.2.1 77 = .ok (.invokevirtual 237, 3) := by decide +kernel
theorem dc_Desk_handIn_80 : decode M_Desk_handIn.2.1 80 = .ok (.iload_n 3, 1) := by decide +kernel
theorem dc_Desk_handIn_81 : decode M_Desk_handIn.2.1 81 = .ok (.ifCond .eq 10, 3) := by decide +kernel
theorem dc_Desk_handIn_84 : decode M_Desk_handIn.2.1 84 = .ok (.aload_n 0, 1) := by decide +kernel
theorem dc_Desk_handIn_85 : decode M_Desk_handIn.2.1 85 = .ok (.iload_n 3, 1) := by decide +kernel
theorem dc_Desk_handIn_86 : decode M_Desk_handIn.2.1 86 = .ok (.invokevirtual 228, 3) := by decide +kernel
theorem dc_Desk_handIn_89 : decode M_Desk_handIn.2.1 89 = .ok (.iconst 3, 1) := by decide +kernel
theorem dc_Desk_handIn_90 : decode M_Desk_handIn.2.1 90 = .ok (.ireturn, 1) := by decide +kernel
theorem dc_Desk_handIn_91 : decode M_Desk_handIn.2.1 91 = .ok (.aload_n 0, 1) := by decide +kernel
theorem dc_Desk_handIn_92 : decode M_Desk_handIn.2.1 92 = .ok (.getfield 30, 3) := by decide +kernel
theorem dc_Desk_handIn_95 : decode M_Desk_handIn.2.1 95 = .ok (.aload_n 0, 1) := by decide +kernel
theorem dc_Desk_handIn_96 : decode M_Desk_handIn.2.1 96 = .ok (.getfield 37, 3) := by decide +kernel
theorem dc_Desk_handIn_99 : decode M_Desk_handIn.2.1 99 = .ok (.invokevirtual 240, 3) := by decide +kernel
theorem dc_Desk_handIn_102 : decode M_Desk_handIn.2.1 102 = .ok (.istore 4, 2) := by decide +kernel
theorem dc_Desk_handIn_104 : decode M_Desk_handIn.2.1 104 = .ok (.aload_n 0, 1) := by decide +kernel
theorem dc_Desk_handIn_105 : decode M_Desk_handIn.2.1 105 = .ok (.aload_n 2, 1) := by decide +kernel
theorem dc_Desk_handIn_106 : decode M_Desk_handIn.2.1 106 = .ok (.iload 4, 2) := by decide +kernel
theorem dc_Desk_handIn_108 : decode M_Desk_handIn.2.1 108 = .ok (.invokevirtual 244, 3) := by decide +kernel
theorem dc_Desk_handIn_111 : decode M_Desk_handIn.2.1 111 = .ok (.iload 4, 2) := by decide +kernel
theorem dc_Desk_handIn_113 : decode M_Desk_handIn.2.1 113 = .ok (.invokestatic 248, 3) := by decide +kernel
theorem dc_Desk_handIn_116 : decode M_Desk_handIn.2.1 116 = .ok (.ifCond .eq 8, 3) := by decide +kernel
theorem dc_Desk_handIn_119 : decode M_Desk_handIn.2.1 119 = .ok (.aload_n 0, 1) := by decide +kernel
theorem dc_Desk_handIn_120 : decode M_Desk_handIn.2.1 120 = .ok (.iconst 5, 1) := by decide +kernel
theorem dc_Desk_handIn_121 : decode M_Desk_handIn.2.1 121 = .ok (.invokevirtual 228, 3) := by decide +kernel
theorem dc_Desk_handIn_124 : decode M_Desk_handIn.2.1 124 = .ok (.iconst 1, 1) := by decide +kernel
theorem dc_Desk_handIn_125 : decode M_Desk_handIn.2.1 125 = .ok (.ireturn, 1) := by decide +kernel
set_option maxRecDepth 20000 in
theorem e_Desk_handIn_0 {d : Nat} {σ : PH} {K : PO → PH → Prop} (x0 : Nat) (x1 : Nat) (h : sh σ x1 = (1, 1) ∧ (∃ b1 : Nat, gR σ 65 x1 = some b1 ∧ sh σ b1 = (1, 2) ∧ PW d M_Intake_textBeforeEnd 0 [.ref b1] [] σ (kR (fun r1 σ1 => (∃ b2 : Nat, r1 = some b2 ∧ sh σ1 x0 = (1, 0) ∧ (∃ b3 : Nat, gR σ1 4 x0 = some b3 ∧ sh σ1 x1 = (1, 1) ∧ (∃ b4 : Nat, gR σ1 65 x1 = some b4 ∧ sh σ1 b4 = (1, 2) ∧ PW d M_Intake_isLong 0 [.ref b4] [] σ1 (kI (fun r2 σ2 => sh σ2 b3 = (1, 10) ∧ PW d M_Header_faultIn 0 [.ref b3, .ref b2, .int r2, uu] [] σ2 (kI (fun r3 σ3 => (if r3 = 1 then sh σ3 x0 = (1, 0) ∧ PW d M_Desk_makeCase 0 [.ref x0, .int r3] [] σ3 (kV (fun σ11 => K (.inl (some (.int 3))) σ11) K) else sh σ3 x1 = (1, 1) ∧ (∃ b5 : Nat, gR σ3 66 x1 = some b5 ∧ sh σ3 x0 = (1, 0) ∧ (∃ b6 : Nat, gR σ3 4 x0 = some b6 ∧ sh σ3 b6 = (1, 10) ∧ sh σ3 b5 = (1, 4) ∧ PW d M_Numbers_accepts 0 [.ref b5, .int (gI σ3 640 b6)] [] σ3 (kI (fun r4 σ4 => (if r4 = 0 then K (.inl (some (.int 2))) σ4 else sh σ4 x0 = (1, 0) ∧ (if (gI σ4 5 x0) < 10 then sh σ4 x1 = (1, 1) ∧ (∃ b7 : Nat, gR σ4 66 x1 = some b7 ∧ (∃ b8 : Nat, gR σ4 4 x0 = some b8 ∧ sh σ4 b8 = (1, 10) ∧ sh σ4 b7 = (1, 4) ∧ PW d M_Numbers_take 0 [.ref b7, .int (gI σ4 640 b8)] [] σ4 (kV (fun σ5 => (if r3 = 0 then sh σ5 x0 = (1, 0) ∧ (∃ b9 : Nat, gR σ5 3 x0 = some b9 ∧ (∃ b10 : Nat, gR σ5 4 x0 = some b10 ∧ sh σ5 b9 = (1, 9) ∧ PW d M_Routes_rowsBehind 0 [.ref b9, .ref b10, uu, uu] [] σ5 (kI (fun r5 σ6 => sh σ6 x0 = (1, 0) ∧ PW d M_Desk_fileMessage 0 [.ref x0, .ref b2, .int r5, uu, uu, uu] [] σ6 (kV (fun σ7 => PW d M_Routes_leadNowhere 0 [.int r5] [] σ7 (kI (fun r6 σ8 => (if r6 = 0 then K (.inl (some (.int 1))) σ8 else sh σ8 x0 = (1, 0) ∧ PW d M_Desk_makeCase 0 [.ref x0, .int 5] [] σ8 (kV (fun σ9 => K (.inl (some (.int 1))) σ9) K))) K)) K)) K))) else sh σ5 x0 = (1, 0) ∧ PW d M_Desk_makeCase 0 [.ref x0, .int r3] [] σ5 (kV (fun σ10 => K (.inl (some (.int 3))) σ10) K))) K))) else K (.inl (some (.int 4))) σ4))) K))))) K)) K))))) K))) : PW (d + 1) M_Desk_handIn 0 [.ref x0, .ref x1, uu, uu, uu] [] σ K := by
  refine pw_aload_n dc_Desk_handIn_0 rfl rfl ?_
  obtain ⟨hs1, h⟩ := h
  refine pw_getR (c := 1) (k := 1) (f := 65) dc_Desk_handIn_1 fl_Desk_54 rfl rfl hs1 ?_
  obtain ⟨b1, hb1, h⟩ := h
  refine PW.top (v' := .ref b1) (congrArg va_rf hb1) ?_
  obtain ⟨hs2, h⟩ := h
  refine pw_callV (vs := []) (st := []) (b := b1) (cn := 2) dc_Desk_handIn_4 cq_Intake_textBeforeEnd (List.mem_of_getElem? (i := 538) (by decide +kernel)) (List.mem_of_getElem? (i := 539) (by decide +kernel)) (List.mem_of_getElem? (i := 537) (by decide +kernel)) rfl hs2 rfl rfl (by decide) (cat_nil) (Nat.le_of_ble_eq_true rfl) (PW.mono (kR_kN (fun r1 σ1 h => ?_)) h)
  obtain ⟨b2, hb2, h⟩ := h
  refine PW.top (v' := .ref b2) (congrArg va_rf hb2) ?_
  refine pw_astore_n dc_Desk_handIn_7 (by decide) rfl ?_
  refine pw_aload_n dc_Desk_handIn_8 rfl rfl ?_
  obtain ⟨hs3, h⟩ := h
  refine pw_getR (c := 0) (k := 4) (f := 4) dc_Desk_handIn_9 fl_Desk_37 rfl rfl hs3 ?_
  obtain ⟨b3, hb3, h⟩ := h
  refine PW.top (v' := .ref b3) (congrArg va_rf hb3) ?_
  refine pw_aload_n dc_Desk_handIn_12 rfl rfl ?_
  refine pw_aload_n dc_Desk_handIn_13 rfl rfl ?_
  obtain ⟨hs4, h⟩ := h
  refine pw_getR (c := 1) (k := 1) (f := 65) dc_Desk_handIn_14 fl_Desk_54 rfl rfl hs4 ?_
  obtain ⟨b4, hb4, h⟩ := h
  refine PW.top (v' := .ref b4) (congrArg va_rf hb4) ?_
  obtain ⟨hs5, h⟩ := h
  refine pw_callV (vs := []) (st := [.ref b2, .ref b3]) (b := b4) (cn := 2) dc_Desk_handIn_17 cq_Intake_isLong (List.mem_of_getElem? (i := 547) (by decide +kernel)) (List.mem_of_getElem? (i := 548) (by decide +kernel)) (List.mem_of_getElem? (i := 546) (by decide +kernel)) rfl hs5 rfl rfl (by decide) (cat_nil) (Nat.le_of_ble_eq_true rfl) (PW.mono (kI_kN (fun r2 σ2 h => ?_)) h)
  obtain ⟨hs6, h⟩ := h
  refine pw_callV (vs := [.ref b2, .int r2]) (st := []) (b := b3) (cn := 10) dc_Desk_handIn_20 cq_Header_faultIn (List.mem_of_getElem? (i := 551) (by decide +kernel)) (List.mem_of_getElem? (i := 552) (by decide +kernel)) (List.mem_of_getElem? (i := 550) (by decide +kernel)) rfl hs6 rfl rfl (by decide) (cat_cons rfl (cat_cons rfl (cat_nil))) (Nat.le_of_ble_eq_true rfl) (PW.mono (kI_kN (fun r3 σ3 h => ?_)) h)
  refine pw_istore_n dc_Desk_handIn_23 (by decide) ?_
  refine pw_iload_n dc_Desk_handIn_24 rfl ?_
  refine pw_iconst (v := 1) dc_Desk_handIn_25 (by decide) ?_
  refine pw_icmp_ne (tgt := 36) dc_Desk_handIn_26 (by decide) (fun hc => ?_) (fun hc => ?_)
  · have h := ite_f h hc
    refine pw_aload_n dc_Desk_handIn_36 rfl rfl ?_
    obtain ⟨hs7, h⟩ := h
    refine pw_getR (c := 1) (k := 2) (f := 66) dc_Desk_handIn_37 fl_Desk_71 rfl rfl hs7 ?_
    obtain ⟨b5, hb5, h⟩ := h
    refine PW.top (v' := .ref b5) (congrArg va_rf hb5) ?_
    refine pw_aload_n dc_Desk_handIn_40 rfl rfl ?_
    obtain ⟨hs8, h⟩ := h
    refine pw_getR (c := 0) (k := 4) (f := 4) dc_Desk_handIn_41 fl_Desk_37 rfl rfl hs8 ?_
    obtain ⟨b6, hb6, h⟩ := h
    refine PW.top (v' := .ref b6) (congrArg va_rf hb6) ?_
    obtain ⟨hs9, h⟩ := h
    refine pw_getI (c := 10) (k := 0) (f := 640) dc_Desk_handIn_44 fl_Desk_231 rfl rfl hs9 ?_
    obtain ⟨hs10, h⟩ := h
    refine pw_callV (vs := [.int (gI σ3 640 b6)]) (st := []) (b := b5) (cn := 4) dc_Desk_handIn_47 cq_Numbers_accepts (List.mem_of_getElem? (i := 601) (by decide +kernel)) (List.mem_of_getElem? (i := 602) (by decide +kernel)) (List.mem_of_getElem? (i := 600) (by decide +kernel)) rfl hs10 rfl rfl (by decide) (cat_cons rfl (cat_nil)) (Nat.le_of_ble_eq_true rfl) (PW.mono (kI_kN (fun r4 σ4 h => ?_)) h)
    refine pw_if_ne (tgt := 55) dc_Desk_handIn_50 (by decide) (fun hc => ?_) (fun hc => ?_)
    · have h := ite_f h hc
      refine pw_aload_n dc_Desk_handIn_55 rfl rfl ?_
      obtain ⟨hs11, h⟩ := h
      refine pw_getI (c := 0) (k := 5) (f := 5) dc_Desk_handIn_56 fl_Desk_166 rfl rfl hs11 ?_
      refine pw_bipush (v := 10) dc_Desk_handIn_59 (by decide) ?_
      refine pw_icmp_lt (tgt := 66) dc_Desk_handIn_61 (by decide) (fun hc => ?_) (fun hc => ?_)
      · have h := ite_t h hc
        refine pw_aload_n dc_Desk_handIn_66 rfl rfl ?_
        obtain ⟨hs12, h⟩ := h
        refine pw_getR (c := 1) (k := 2) (f := 66) dc_Desk_handIn_67 fl_Desk_71 rfl rfl hs12 ?_
        obtain ⟨b7, hb7, h⟩ := h
        refine PW.top (v' := .ref b7) (congrArg va_rf hb7) ?_
        refine pw_aload_n dc_Desk_handIn_70 rfl rfl ?_
        refine pw_getR (c := 0) (k := 4) (f := 4) dc_Desk_handIn_71 fl_Desk_37 rfl rfl hs11 ?_
        obtain ⟨b8, hb8, h⟩ := h
        refine PW.top (v' := .ref b8) (congrArg va_rf hb8) ?_
        obtain ⟨hs13, h⟩ := h
        refine pw_getI (c := 10) (k := 0) (f := 640) dc_Desk_handIn_74 fl_Desk_231 rfl rfl hs13 ?_
        obtain ⟨hs14, h⟩ := h
        refine pw_callV (vs := [.int (gI σ4 640 b8)]) (st := []) (b := b7) (cn := 4) dc_Desk_handIn_77 cq_Numbers_take (List.mem_of_getElem? (i := 617) (by decide +kernel)) (List.mem_of_getElem? (i := 618) (by decide +kernel)) (List.mem_of_getElem? (i := 616) (by decide +kernel)) rfl hs14 rfl rfl (by decide) (cat_cons rfl (cat_nil)) (Nat.le_of_ble_eq_true rfl) (PW.mono (kV_kN (fun σ5 h => ?_)) h)
        refine pw_iload_n dc_Desk_handIn_80 rfl ?_
        refine pw_if_eq (tgt := 91) dc_Desk_handIn_81 (by decide) (fun hc => ?_) (fun hc => ?_)
        · have h := ite_t h hc
          refine pw_aload_n dc_Desk_handIn_91 rfl rfl ?_
          obtain ⟨hs15, h⟩ := h
          refine pw_getR (c := 0) (k := 3) (f := 3) dc_Desk_handIn_92 fl_Desk_30 rfl rfl hs15 ?_
          obtain ⟨b9, hb9, h⟩ := h
          refine PW.top (v' := .ref b9) (congrArg va_rf hb9) ?_
          refine pw_aload_n dc_Desk_handIn_95 rfl rfl ?_
          refine pw_getR (c := 0) (k := 4) (f := 4) dc_Desk_handIn_96 fl_Desk_37 rfl rfl hs15 ?_
          obtain ⟨b10, hb10, h⟩ := h
          refine PW.top (v' := .ref b10) (congrArg va_rf hb10) ?_
          obtain ⟨hs16, h⟩ := h
          refine pw_callV (vs := [.ref b10]) (st := []) (b := b9) (cn := 9) dc_Desk_handIn_99 cq_Routes_rowsBehind (List.mem_of_getElem? (i := 632) (by decide +kernel)) (List.mem_of_getElem? (i := 633) (by decide +kernel)) (List.mem_of_getElem? (i := 631) (by decide +kernel)) rfl hs16 rfl rfl (by decide) (cat_cons rfl (cat_nil)) (Nat.le_of_ble_eq_true rfl) (PW.mono (kI_kN (fun r5 σ6 h => ?_)) h)
          refine pw_istore dc_Desk_handIn_102 (by decide) ?_
          refine pw_aload_n dc_Desk_handIn_104 rfl rfl ?_
          refine pw_aload_n dc_Desk_handIn_105 rfl rfl ?_
          refine pw_iload dc_Desk_handIn_106 rfl ?_
          obtain ⟨hs17, h⟩ := h
          refine pw_callV (vs := [.ref b2, .int r5]) (st := []) (b := x0) (cn := 0) dc_Desk_handIn_108 cq_Desk_fileMessage (List.mem_of_getElem? (i := 656) (by decide +kernel)) (List.mem_of_getElem? (i := 20) (by decide +kernel)) (List.mem_of_getElem? (i := 654) (by decide +kernel)) rfl hs17 rfl rfl (by decide) (cat_cons rfl (cat_cons rfl (cat_nil))) (Nat.le_of_ble_eq_true rfl) (PW.mono (kV_kN (fun σ7 h => ?_)) h)
          refine pw_iload dc_Desk_handIn_111 rfl ?_
          refine pw_callS (vs := [.int r5]) (st := []) dc_Desk_handIn_113 cq_Routes_leadNowhere (List.mem_of_getElem? (i := 683) (by decide +kernel)) (List.mem_of_getElem? (i := 682) (by decide +kernel)) rfl rfl (cat_cons rfl (cat_nil)) (Nat.le_of_ble_eq_true rfl) (PW.mono (kI_kN (fun r6 σ8 h => ?_)) h)
          refine pw_if_eq (tgt := 124) dc_Desk_handIn_116 (by decide) (fun hc => ?_) (fun hc => ?_)
          · have h := ite_t h hc
            refine pw_iconst (v := 1) dc_Desk_handIn_124 (by decide) ?_
            exact pw_iret dc_Desk_handIn_125 rfl rfl h
          · have h := ite_f h hc
            refine pw_aload_n dc_Desk_handIn_119 rfl rfl ?_
            refine pw_iconst (v := 5) dc_Desk_handIn_120 (by decide) ?_
            obtain ⟨hs18, h⟩ := h
            refine pw_callV (vs := [.int 5]) (st := []) (b := x0) (cn := 0) dc_Desk_handIn_121 cq_Desk_makeCase (List.mem_of_getElem? (i := 598) (by decide +kernel)) (List.mem_of_getElem? (i := 11) (by decide +kernel)) (List.mem_of_getElem? (i := 596) (by decide +kernel)) rfl hs18 rfl rfl (by decide) (cat_cons rfl (cat_nil)) (Nat.le_of_ble_eq_true rfl) (PW.mono (kV_kN (fun σ9 h => ?_)) h)
            refine pw_iconst (v := 1) dc_Desk_handIn_124 (by decide) ?_
            exact pw_iret dc_Desk_handIn_125 rfl rfl h
        · have h := ite_f h hc
          refine pw_aload_n dc_Desk_handIn_84 rfl rfl ?_
          refine pw_iload_n dc_Desk_handIn_85 rfl ?_
          obtain ⟨hs19, h⟩ := h
          refine pw_callV (vs := [.int r3]) (st := []) (b := x0) (cn := 0) dc_Desk_handIn_86 cq_Desk_makeCase (List.mem_of_getElem? (i := 598) (by decide +kernel)) (List.mem_of_getElem? (i := 11) (by decide +kernel)) (List.mem_of_getElem? (i := 596) (by decide +kernel)) rfl hs19 rfl rfl (by decide) (cat_cons rfl (cat_nil)) (Nat.le_of_ble_eq_true rfl) (PW.mono (kV_kN (fun σ10 h => ?_)) h)
          refine pw_iconst (v := 3) dc_Desk_handIn_89 (by decide) ?_
          exact pw_iret dc_Desk_handIn_90 rfl rfl h
      · have h := ite_f h hc
        refine pw_iconst (v := 4) dc_Desk_handIn_64 (by decide) ?_
        exact pw_iret dc_Desk_handIn_65 rfl rfl h
    · have h := ite_t h hc
      refine pw_iconst (v := 2) dc_Desk_handIn_53 (by decide) ?_
      exact pw_iret dc_Desk_handIn_54 rfl rfl h
  · have h := ite_t h hc
    refine pw_aload_n dc_Desk_handIn_29 rfl rfl ?_
    refine pw_iload_n dc_Desk_handIn_30 rfl ?_
    obtain ⟨hs20, h⟩ := h
    refine pw_callV (vs := [.int r3]) (st := []) (b := x0) (cn := 0) dc_Desk_handIn_31 cq_Desk_makeCase (List.mem_of_getElem? (i := 598) (by decide +kernel)) (List.mem_of_getElem? (i := 11) (by decide +kernel)) (List.mem_of_getElem? (i := 596) (by decide +kernel)) rfl hs20 rfl rfl (by decide) (cat_cons rfl (cat_nil)) (Nat.le_of_ble_eq_true rfl) (PW.mono (kV_kN (fun σ11 h => ?_)) h)
    refine pw_iconst (v := 3) dc_Desk_handIn_34 (by decide) ?_
    exact pw_iret dc_Desk_handIn_35 rfl rfl h
theorem dc_Desk_fileIfAllLeadSomewhere_0 : decode M_Desk_fileIfAllLeadSomewhere.2.1 0 = .ok (.aload_n 0, 1) := by decide +kernel
theorem dc_Desk_fileIfAllLeadSomewhere_1 : decode M_Desk_fileIfAllLeadSomewhere.2.1 1 = .ok (.getfield 30, 3) := by decide +kernel
theorem dc_Desk_fileIfAllLeadSomewhere_4 : decode M_Desk_fileIfAllLeadSomewhere.2.1 4 = .ok (.aload_n 0, 1) := by decide +kernel
theorem dc_Desk_fileIfAllLeadSomewhere_5 : decode M_Desk_fileIfAllLeadSomewhere.2.1 5 = .ok (.getfield 37, 3) := by decide +kernel
theorem dc_Desk_fileIfAllLeadSomewhere_8 : decode M_Desk_fileIfAllLeadSomewhere.2.1 8 = .ok (.invokevirtual 240, 3) := by decide +kernel
theorem dc_Desk_fileIfAllLeadSomewhere_11 : decode M_Desk_fileIfAllLeadSomewhere.2.1 11 = .ok (.istore_n 2, 1) := by decide +kernel
theorem dc_Desk_fileIfAllLeadSomewhere_12 : decode M_Desk_fileIfAllLeadSomewhere.2.1 12 = .ok (.iload_n 2, 1) := by decide +kernel
theorem dc_Desk_fileIfAllLeadSomewhere_13 : decode M_Desk_fileIfAllLeadSomewhere.2.1 13 = .ok (.invokestatic 248, 3) := by decide +kernel
theorem dc_Desk_fileIfAllLeadSomewhere_16 : decode M_Desk_fileIfAllLeadSomewhere.2.1 16 = .ok (.ifCond .eq 5, 3) := by decide +kernel
theorem dc_Desk_fileIfAllLeadSomewhere_19 : decode M_Desk_fileIfAllLeadSomewhere.2.1 19 = .ok (.iconst 5, 1) := by decide +kernel
theorem dc_Desk_fileIfAllLeadSomewhere_20 : decode M_Desk_fileIfAllLeadSomewhere.2.1 20 = .ok (.ireturn, 1) := by decide +kernel
theorem dc_Desk_fileIfAllLeadSomewhere_21 : decode M_Desk_fileIfAllLeadSomewhere.2.1 21 = .ok (.aload_n 0, 1) := by decide +kernel
theorem dc_Desk_fileIfAllLeadSomewhere_22 : decode M_Desk_fileIfAllLeadSomewhere.2.1 22 = .ok (.aload_n 1, 1) := by decide +kernel
theorem dc_Desk_fileIfAllLeadSomewhere_23 : decode M_Desk_fileIfAllLeadSomewhere.2.1 23 = .ok (.iload_n 2, 1) := by decide +kernel
theorem dc_Desk_fileIfAllLeadSomewhere_24 : decode M_Desk_fileIfAllLeadSomewhere.2.1 24 = .ok (.invokevirtual 244, 3) := by decide +kernel
theorem dc_Desk_fileIfAllLeadSomewhere_27 : decode M_Desk_fileIfAllLeadSomewhere.2.1 27 = .ok (.iconst 0, 1) := by decide +kernel
theorem dc_Desk_fileIfAllLeadSomewhere_28 : decode M_Desk_fileIfAllLeadSomewhere.2.1 28 = .ok (.ireturn, 1) := by decide +kernel
set_option maxRecDepth 20000 in
theorem e_Desk_fileIfAllLeadSomewhere_0 {d : Nat} {σ : PH} {K : PO → PH → Prop} (x0 : Nat) (x1 : Nat) (h : sh σ x0 = (1, 0) ∧ (∃ b1 : Nat, gR σ 3 x0 = some b1 ∧ (∃ b2 : Nat, gR σ 4 x0 = some b2 ∧ sh σ b1 = (1, 9) ∧ PW d M_Routes_rowsBehind 0 [.ref b1, .ref b2, uu, uu] [] σ (kI (fun r1 σ1 => PW d M_Routes_leadNowhere 0 [.int r1] [] σ1 (kI (fun r2 σ2 => (if r2 = 0 then sh σ2 x0 = (1, 0) ∧ PW d M_Desk_fileMessage 0 [.ref x0, .ref x1, .int r1, uu, uu, uu] [] σ2 (kV (fun σ3 => K (.inl (some (.int 0))) σ3) K) else K (.inl (some (.int 5))) σ2)) K)) K)))) : PW (d + 1) M_Desk_fileIfAllLeadSomewhere 0 [.ref x0, .ref x1, uu] [] σ K := by
  refine pw_aload_n dc_Desk_fileIfAllLeadSomewhere_0 rfl rfl ?_
  obtain ⟨hs1, h⟩ := h
  refine pw_getR (c := 0) (k := 3) (f := 3) dc_Desk_fileIfAllLeadSomewhere_1 fl_Desk_30 rfl rfl hs1 ?_
  obtain ⟨b1, hb1, h⟩ := h
  refine PW.top (v' := .ref b1) (congrArg va_rf hb1) ?_
  refine pw_aload_n dc_Desk_fileIfAllLeadSomewhere_4 rfl rfl ?_
  refine pw_getR (c := 0) (k := 4) (f := 4) dc_Desk_fileIfAllLeadSomewhere_5 fl_Desk_37 rfl rfl hs1 ?_
  obtain ⟨b2, hb2, h⟩ := h
  refine PW.top (v' := .ref b2) (congrArg va_rf hb2) ?_
  obtain ⟨hs2, h⟩ := h
  refine pw_callV (vs := [.ref b2]) (st := []) (b := b1) (cn := 9) dc_Desk_fileIfAllLeadSomewhere_8 cq_Routes_rowsBehind (List.mem_of_getElem? (i := 632) (by decide +kernel)) (List.mem_of_getElem? (i := 633) (by decide +kernel)) (List.mem_of_getElem? (i := 631) (by decide +kernel)) rfl hs2 rfl rfl (by decide) (cat_cons rfl (cat_nil)) (Nat.le_of_ble_eq_true rfl) (PW.mono (kI_kN (fun r1 σ1 h => ?_)) h)
  refine pw_istore_n dc_Desk_fileIfAllLeadSomewhere_11 (by decide) ?_
  refine pw_iload_n dc_Desk_fileIfAllLeadSomewhere_12 rfl ?_
  refine pw_callS (vs := [.int r1]) (st := []) dc_Desk_fileIfAllLeadSomewhere_13 cq_Routes_leadNowhere (List.mem_of_getElem? (i := 683) (by decide +kernel)) (List.mem_of_getElem? (i := 682) (by decide +kernel)) rfl rfl (cat_cons rfl (cat_nil)) (Nat.le_of_ble_eq_true rfl) (PW.mono (kI_kN (fun r2 σ2 h => ?_)) h)
  refine pw_if_eq (tgt := 21) dc_Desk_fileIfAllLeadSomewhere_16 (by decide) (fun hc => ?_) (fun hc => ?_)
  · have h := ite_t h hc
    refine pw_aload_n dc_Desk_fileIfAllLeadSomewhere_21 rfl rfl ?_
    refine pw_aload_n dc_Desk_fileIfAllLeadSomewhere_22 rfl rfl ?_
    refine pw_iload_n dc_Desk_fileIfAllLeadSomewhere_23 rfl ?_
    obtain ⟨hs3, h⟩ := h
    refine pw_callV (vs := [.ref x1, .int r1]) (st := []) (b := x0) (cn := 0) dc_Desk_fileIfAllLeadSomewhere_24 cq_Desk_fileMessage (List.mem_of_getElem? (i := 656) (by decide +kernel)) (List.mem_of_getElem? (i := 20) (by decide +kernel)) (List.mem_of_getElem? (i := 654) (by decide +kernel)) rfl hs3 rfl rfl (by decide) (cat_cons rfl (cat_cons rfl (cat_nil))) (Nat.le_of_ble_eq_true rfl) (PW.mono (kV_kN (fun σ3 h => ?_)) h)
    refine pw_iconst (v := 0) dc_Desk_fileIfAllLeadSomewhere_27 (by decide) ?_
    exact pw_iret dc_Desk_fileIfAllLeadSomewhere_28 rfl rfl h
  · have h := ite_f h hc
    refine pw_iconst (v := 5) dc_Desk_fileIfAllLeadSomewhere_19 (by decide) ?_
    exact pw_iret dc_Desk_fileIfAllLeadSomewhere_20 rfl rfl h
theorem dc_Desk_makeCase_0 : decode M_Desk_makeCase.2.1 0 = .ok (.aload_n 0, 1) := by decide +kernel
theorem dc_Desk_makeCase_1 : decode M_Desk_makeCase.2.1 1 = .ok (.getfield 179, 3) := by decide +kernel
theorem dc_Desk_makeCase_4 : decode M_Desk_makeCase.2.1 4 = .ok (.bipush 6, 2) := by decide +kernel
theorem dc_Desk_makeCase_6 : decode M_Desk_makeCase.2.1 6 = .ok (.if_icmp .ge 26, 3) := by decide +kernel
theorem dc_Desk_makeCase_9 : decode M_Desk_makeCase.2.1 9 = .ok (.aload_n 0, 1) := by decide +kernel
theorem dc_Desk_makeCase_10 : decode M_Desk_makeCase.2.1 10 = .ok (.getfield 23, 3) := by decide +kernel
theorem dc_Desk_makeCase_13 : decode M_Desk_makeCase.2.1 13 = .ok (.aload_n 0, 1) := by decide +kernel
theorem dc_Desk_makeCase_14 : decode M_Desk_makeCase.2.1 14 = .ok (.getfield 179, 3) := by decide +kernel
theorem dc_Desk_makeCase_17 : decode M_Desk_makeCase.2.1 17 = .ok (.aaload, 1) := by decide +kernel
theorem dc_Desk_makeCase_18 : decode M_Desk_makeCase.2.1 18 = .ok (.iload_n 1, 1) := by decide +kernel
theorem dc_Desk_makeCase_19 : decode M_Desk_makeCase.2.1 19 = .ok (.putfield 182, 3) := by decide +kernel
theorem dc_Desk_makeCase_22 : decode M_Desk_makeCase.2.1 22 = .ok (.aload_n 0, 1) := by decide +kernel
theorem dc_Desk_makeCase_23 : decode M_Desk_makeCase.2.1 23 = .ok (.dup, 1) := by decide +kernel
theorem dc_Desk_makeCase_24 : decode M_Desk_makeCase.2.1 24 = .ok (.getfield 179, 3) := by decide +kernel
theorem dc_Desk_makeCase_27 : decode M_Desk_makeCase.2.1 27 = .ok (.iconst 1, 1) := by decide +kernel
theorem dc_Desk_makeCase_28 : decode M_Desk_makeCase.2.1 28 = .ok (.iadd, 1) := by decide +kernel
theorem dc_Desk_makeCase_29 : decode M_Desk_makeCase.2.1 29 = .ok (.putfield 179, 3) := by decide +kernel
theorem dc_Desk_makeCase_32 : decode M_Desk_makeCase.2.1 32 = .ok (.return_, 1) := by decide +kernel
set_option maxRecDepth 20000 in
theorem e_Desk_makeCase_0 {d : Nat} {σ : PH} {K : PO → PH → Prop} (x0 : Nat) (x1 : Int32) (h : sh σ x0 = (1, 0) ∧ (if 6 ≤ (gI σ 6 x0) then K (.inl none) σ else (∃ b1 : Nat, gR σ 2 x0 = some b1 ∧ (∃ n1 : Nat, sh σ b1 = (8, n1) ∧ vp_in (gI σ 6 x0) n1 ∧ (∃ b2 : Nat, eR σ b1 (ix (gI σ 6 x0)) = some b2 ∧ sh σ b2 = (1, 7) ∧ (∀ σ1 : PH, σ1 = pI σ 448 b2 x1 → sh σ1 x0 = (1, 0) ∧ (∀ σ2 : PH, σ2 = pI σ1 6 x0 ((gI σ1 6 x0) + 1) → K (.inl none) σ2))))))) : PW d M_Desk_makeCase 0 [.ref x0, .int x1] [] σ K := by
  refine pw_aload_n dc_Desk_makeCase_0 rfl rfl ?_
  obtain ⟨hs1, h⟩ := h
  refine pw_getI (c := 0) (k := 6) (f := 6) dc_Desk_makeCase_1 fl_Desk_179 rfl rfl hs1 ?_
  refine pw_bipush (v := 6) dc_Desk_makeCase_4 (by decide) ?_
  refine pw_icmp_ge (tgt := 32) dc_Desk_makeCase_6 (by decide) (fun hc => ?_) (fun hc => ?_)
  · have h := ite_t h hc
    exact pw_vret dc_Desk_makeCase_32 rfl h
  · have h := ite_f h hc
    refine pw_aload_n dc_Desk_makeCase_9 rfl rfl ?_
    refine pw_getR (c := 0) (k := 2) (f := 2) dc_Desk_makeCase_10 fl_Desk_23 rfl rfl hs1 ?_
    obtain ⟨b1, hb1, h⟩ := h
    refine PW.top (v' := .ref b1) (congrArg va_rf hb1) ?_
    refine pw_aload_n dc_Desk_makeCase_13 rfl rfl ?_
    refine pw_getI (c := 0) (k := 6) (f := 6) dc_Desk_makeCase_14 fl_Desk_179 rfl rfl hs1 ?_
    obtain ⟨n1, hs2, h⟩ := h
    obtain ⟨hi1, h⟩ := h
    refine pw_aald (k := 8) dc_Desk_makeCase_17 (by unfold rk; decide) hs2 hi1 ?_
    obtain ⟨b2, hb2, h⟩ := h
    refine PW.top (v' := .ref b2) (congrArg va_rf hb2) ?_
    refine pw_iload_n dc_Desk_makeCase_18 rfl ?_
    obtain ⟨hs3, h⟩ := h
    have h := h _ rfl
    refine pw_putI (c := 7) (k := 0) (f := 448) dc_Desk_makeCase_19 fl_Desk_182 (Or.inl rfl) rfl rfl hs3 ?_
    refine pw_aload_n dc_Desk_makeCase_22 rfl rfl ?_
    refine pw_dup dc_Desk_makeCase_23 rfl ?_
    obtain ⟨hs4, h⟩ := h
    refine pw_getI (c := 0) (k := 6) (f := 6) dc_Desk_makeCase_24 fl_Desk_179 rfl rfl hs4 ?_
    refine pw_iconst (v := 1) dc_Desk_makeCase_27 (by decide) ?_
    refine pw_iadd dc_Desk_makeCase_28 ?_
    have h := h _ rfl
    refine pw_putI (c := 0) (k := 6) (f := 6) dc_Desk_makeCase_29 fl_Desk_179 (Or.inl rfl) rfl rfl hs4 ?_
    exact pw_vret dc_Desk_makeCase_32 rfl h
theorem dc_Desk_fileMessage_0 : decode M_Desk_fileMessage.2.1 0 = .ok (.aload_n 0, 1) := by decide +kernel
theorem dc_Desk_fileMessage_1 : decode M_Desk_fileMessage.2.1 1 = .ok (.getfield 166, 3) := by decide +kernel
theorem dc_Desk_fileMessage_4 : decode M_Desk_fileMessage.2.1 4 = .ok (.bipush 10, 2) := by decide +kernel
theorem dc_Desk_fileMessage_6 : decode M_Desk_fileMessage.2.1 6 = .ok (.if_icmp .lt 4, 3) := by decide +kernel
theorem dc_Desk_fileMessage_9 : decode M_Desk_fileMessage.2.1 9 = .ok (.return_, 1) := by decide +kernel
theorem dc_Desk_fileMessage_10 : decode M_Desk_fileMessage.2.1 10 = .ok (.aload_n 0, 1) := by decide +kernel
theorem dc_Desk_fileMessage_11 : decode M_Desk_fileMessage.2.1 11 = .ok (.getfield 17, 3) := by decide +kernel
theorem dc_Desk_fileMessage_14 : decode M_Desk_fileMessage.2.1 14 = .ok (.aload_n 0, 1) := by decide +kernel
theorem dc_Desk_fileMessage_15 : decode M_Desk_fileMessage.2.1 15 = .ok (.getfield 166, 3) := by decide +kernel
theorem dc_Desk_fileMessage_18 : decode M_Desk_fileMessage.2.1 18 = .ok (.aaload, 1) := by decide +kernel
theorem dc_Desk_fileMessage_19 : decode M_Desk_fileMessage.2.1 19 = .ok (.astore_n 3, 1) := by decide +kernel
theorem dc_Desk_fileMessage_20 : decode M_Desk_fileMessage.2.1 20 = .ok (.aload_n 0, 1) := by decide +kernel
theorem dc_Desk_fileMessage_21 : decode M_Desk_fileMessage.2.1 21 = .ok (.dup, 1) := by decide +kernel
theorem dc_Desk_fileMessage_22 : decode M_Desk_fileMessage.2.1 22 = .ok (.getfield 166, 3) := by decide +kernel
theorem dc_Desk_fileMessage_25 : decode M_Desk_fileMessage.2.1 25 = .ok (.iconst 1, 1) := by decide +kernel
theorem dc_Desk_fileMessage_26 : decode M_Desk_fileMessage.2.1 26 = .ok (.iadd, 1) := by decide +kernel
theorem dc_Desk_fileMessage_27 : decode M_Desk_fileMessage.2.1 27 = .ok (.putfield 166, 3) := by decide +kernel
theorem dc_Desk_fileMessage_30 : decode M_Desk_fileMessage.2.1 30 = .ok (.aload_n 3, 1) := by decide +kernel
theorem dc_Desk_fileMessage_31 : decode M_Desk_fileMessage.2.1 31 = .ok (.aload_n 0, 1) := by decide +kernel
theorem dc_Desk_fileMessage_32 : decode M_Desk_fileMessage.2.1 32 = .ok (.getfield 37, 3) := by decide +kernel
theorem dc_Desk_fileMessage_35 : decode M_Desk_fileMessage.2.1 35 = .ok (.aload_n 1, 1) := by decide +kernel
theorem dc_Desk_fileMessage_36 : decode M_Desk_fileMessage.2.1 36 = .ok (.invokevirtual 251, 3) := by decide +kernel
theorem dc_Desk_fileMessage_39 : decode M_Desk_fileMessage.2.1 39 = .ok (.iconst 0, 1) := by decide +kernel
theorem dc_Desk_fileMessage_40 : decode M_Desk_fileMessage.2.1 40 = .ok (.istore 4, 2) := by decide +kernel
theorem dc_Desk_fileMessage_42 : decode M_Desk_fileMessage.2.1 42 = .ok (.iload 4, 2) := by decide +kernel
theorem dc_Desk_fileMessage_44 : decode M_Desk_fileMessage.2.1 44 = .ok (.aload_n 0, 1) := by decide +kernel
theorem dc_Desk_fileMessage_45 : decode M_Desk_fileMessage.2.1 45 = .ok (.getfield 30, 3) := by decide +kernel
theorem dc_Desk_fileMessage_48 : decode M_Desk_fileMessage.2.1 48 = .ok (.getfield 255, 3) := by decide +kernel
theorem dc_Desk_fileMessage_51 : decode M_Desk_fileMessage.2.1 51 = .ok (.if_icmp .ge 50, 3) := by decide +kernel
theorem dc_Desk_fileMessage_54 : decode M_Desk_fileMessage.2.1 54 = .ok (.aload_n 0, 1) := by decide +kernel
theorem dc_Desk_fileMessage_55 : decode M_Desk_fileMessage.2.1 55 = .ok (.getfield 30, 3) := by decide +kernel
theorem dc_Desk_fileMessage_58 : decode M_Desk_fileMessage.2.1 58 = .ok (.getfield 90, 3) := by decide +kernel
theorem dc_Desk_fileMessage_61 : decode M_Desk_fileMessage.2.1 61 = .ok (.iload 4, 2) := by decide +kernel
theorem dc_Desk_fileMessage_63 : decode M_Desk_fileMessage.2.1 63 = .ok (.aaload, 1) := by decide +kernel
theorem dc_Desk_fileMessage_64 : decode M_Desk_fileMessage.2.1 64 = .ok (.astore 5, 2) := by decide +kernel
theorem dc_Desk_fileMessage_66 : decode M_Desk_fileMessage.2.1 66 = .ok (.iload_n 2, 1) := by decide +kernel
theorem dc_Desk_fileMessage_67 : decode M_Desk_fileMessage.2.1 67 = .ok (.iload 4, 2) := by decide +kernel
theorem dc_Desk_fileMessage_69 : decode M_Desk_fileMessage.2.1 69 = .ok (.invokestatic 258, 3) := by decide +kernel
theorem dc_Desk_fileMessage_72 : decode M_Desk_fileMessage.2.1 72 = .ok (.ifCond .eq 23, 3) := by decide +kernel
theorem dc_Desk_fileMessage_75 : decode M_Desk_fileMessage.2.1 75 = .ok (.aload 5, 2) := by decide +kernel
theorem dc_Desk_fileMessage_77 : decode M_Desk_fileMessage.2.1 77 = .ok (.invokevirtual 94, 3) := by decide +kernel
theorem dc_Desk_fileMessage_80 : decode M_Desk_fileMessage.2.1 80 = .ok (.ifCond .ne 15, 3) := by decide +kernel
theorem dc_Desk_fileMessage_83 : decode M_Desk_fileMessage.2.1 83 = .ok (.aload_n 3, 1) := by decide +kernel
theorem dc_Desk_fileMessage_84 : decode M_Desk_fileMessage.2.1 84 = .ok (.getfield 175, 3) := by decide +kernel
theorem dc_Desk_fileMessage_87 : decode M_Desk_fileMessage.2.1 87 = .ok (.aload_n 0, 1) := by decide +kernel
theorem dc_Desk_fileMessage_88 : decode M_Desk_fileMessage.2.1 88 = .ok (.aload 5, 2) := by decide +kernel
theorem dc_Desk_fileMessage_90 : decode M_Desk_fileMessage.2.1 90 = .ok (.invokevirtual 261, 3) := by decide +kernel
theorem dc_Desk_fileMessage_93 : decode M_Desk_fileMessage.2.1 93 = .ok (.iconst (-1), 1) := by decide +kernel
theorem dc_Desk_fileMessage_94 : decode M_Desk_fileMessage.2.1 94 = .ok (.iastore, 1) := by decide +kernel
theorem dc_Desk_fileMessage_95 : decode M_Desk_fileMessage.2.1 95 = .ok (.iinc 4 1, 3) := by decide +kernel
theorem dc_Desk_fileMessage_98 : decode M_Desk_fileMessage.2.1 98 = .ok (.goto (-56), 3) := by decide +kernel
theorem dc_Desk_fileMessage_101 : decode M_Desk_fileMessage.2.1 101 = .ok (.return_, 1) := by decide +kernel
set_option maxRecDepth 20000 in
theorem e_Desk_fileMessage_0 {d : Nat} {σ : PH} {K : PO → PH → Prop} (x0 : Nat) (x1 : Nat) (x2 : Int32) (h : sh σ x0 = (1, 0) ∧ (if (gI σ 5 x0) < 10 then (∃ b1 : Nat, gR σ 1 x0 = some b1 ∧ (∃ n1 : Nat, sh σ b1 = (7, n1) ∧ vp_in (gI σ 5 x0) n1 ∧ (∃ b2 : Nat, eR σ b1 (ix (gI σ 5 x0)) = some b2 ∧ (∀ σ1 : PH, σ1 = pI σ 5 x0 ((gI σ 5 x0) + 1) → sh σ1 x0 = (1, 0) ∧ (∃ b3 : Nat, gR σ1 4 x0 = some b3 ∧ sh σ1 b2 = (1, 6) ∧ PW d M_Message_fill 0 [.ref b2, .ref b3, .ref x1, uu] [] σ1 (kV (fun σ2 => PW (d + 1) M_Desk_fileMessage 42 [.ref x0, uu, .int x2, .ref b2, .int 0, uu] [] σ2 K) K)))))) else K (.inl none) σ)) : PW (d + 1) M_Desk_fileMessage 0 [.ref x0, .ref x1, .int x2, uu, uu, uu] [] σ K := by
  refine pw_aload_n dc_Desk_fileMessage_0 rfl rfl ?_
  obtain ⟨hs1, h⟩ := h
  refine pw_getI (c := 0) (k := 5) (f := 5) dc_Desk_fileMessage_1 fl_Desk_166 rfl rfl hs1 ?_
  refine pw_bipush (v := 10) dc_Desk_fileMessage_4 (by decide) ?_
  refine pw_icmp_lt (tgt := 10) dc_Desk_fileMessage_6 (by decide) (fun hc => ?_) (fun hc => ?_)
  · have h := ite_t h hc
    refine pw_aload_n dc_Desk_fileMessage_10 rfl rfl ?_
    refine pw_getR (c := 0) (k := 1) (f := 1) dc_Desk_fileMessage_11 fl_Desk_17 rfl rfl hs1 ?_
    obtain ⟨b1, hb1, h⟩ := h
    refine PW.top (v' := .ref b1) (congrArg va_rf hb1) ?_
    refine pw_aload_n dc_Desk_fileMessage_14 rfl rfl ?_
    refine pw_getI (c := 0) (k := 5) (f := 5) dc_Desk_fileMessage_15 fl_Desk_166 rfl rfl hs1 ?_
    obtain ⟨n1, hs2, h⟩ := h
    obtain ⟨hi1, h⟩ := h
    refine pw_aald (k := 7) dc_Desk_fileMessage_18 (by unfold rk; decide) hs2 hi1 ?_
    obtain ⟨b2, hb2, h⟩ := h
    refine PW.top (v' := .ref b2) (congrArg va_rf hb2) ?_
    refine pw_astore_n dc_Desk_fileMessage_19 (by decide) rfl ?_
    refine pw_aload_n dc_Desk_fileMessage_20 rfl rfl ?_
    refine pw_dup dc_Desk_fileMessage_21 rfl ?_
    refine pw_getI (c := 0) (k := 5) (f := 5) dc_Desk_fileMessage_22 fl_Desk_166 rfl rfl hs1 ?_
    refine pw_iconst (v := 1) dc_Desk_fileMessage_25 (by decide) ?_
    refine pw_iadd dc_Desk_fileMessage_26 ?_
    have h := h _ rfl
    refine pw_putI (c := 0) (k := 5) (f := 5) dc_Desk_fileMessage_27 fl_Desk_166 (Or.inl rfl) rfl rfl hs1 ?_
    refine pw_aload_n dc_Desk_fileMessage_30 rfl rfl ?_
    refine pw_aload_n dc_Desk_fileMessage_31 rfl rfl ?_
    obtain ⟨hs3, h⟩ := h
    refine pw_getR (c := 0) (k := 4) (f := 4) dc_Desk_fileMessage_32 fl_Desk_37 rfl rfl hs3 ?_
    obtain ⟨b3, hb3, h⟩ := h
    refine PW.top (v' := .ref b3) (congrArg va_rf hb3) ?_
    refine pw_aload_n dc_Desk_fileMessage_35 rfl rfl ?_
    obtain ⟨hs4, h⟩ := h
    refine pw_callV (vs := [.ref b3, .ref x1]) (st := []) (b := b2) (cn := 6) dc_Desk_fileMessage_36 cq_Message_fill (List.mem_of_getElem? (i := 659) (by decide +kernel)) (List.mem_of_getElem? (i := 660) (by decide +kernel)) (List.mem_of_getElem? (i := 658) (by decide +kernel)) rfl hs4 rfl rfl (by decide) (cat_cons rfl (cat_cons rfl (cat_nil))) (Nat.le_of_ble_eq_true rfl) (PW.mono (kV_kN (fun σ2 h => ?_)) h)
    refine pw_iconst (v := 0) dc_Desk_fileMessage_39 (by decide) ?_
    refine pw_istore dc_Desk_fileMessage_40 (by decide) ?_
    refine PW.drop (ls' := [.ref x0, uu, .int x2, .ref b2, .int 0, uu]) ⟨Or.inl rfl, Or.inr rfl, Or.inl rfl, Or.inl rfl, Or.inl rfl, Or.inl rfl, trivial⟩ ?_
    exact h
  · have h := ite_f h hc
    exact pw_vret dc_Desk_fileMessage_9 rfl h
set_option maxRecDepth 20000 in
theorem e_Desk_fileMessage_42 {d : Nat} {σ : PH} {K : PO → PH → Prop} (x0 : Nat) (x2 : Int32) (x3 : Nat) (x4 : Int32) (h : sh σ x0 = (1, 0) ∧ (∃ b1 : Nat, gR σ 3 x0 = some b1 ∧ sh σ b1 = (1, 9) ∧ (if (gI σ 577 b1) ≤ x4 then K (.inl none) σ else (∃ b2 : Nat, gR σ 576 b1 = some b2 ∧ (∃ n1 : Nat, sh σ b2 = (9, n1) ∧ vp_in x4 n1 ∧ (∃ b3 : Nat, eR σ b2 (ix x4) = some b3 ∧ PW d M_Routes_has 0 [.int x2, .int x4] [] σ (kI (fun r1 σ1 => (if r1 = 0 then PW (d + 1) M_Desk_fileMessage 95 [.ref x0, uu, .int x2, .ref x3, .int x4, uu] [] σ1 K else sh σ1 b3 = (1, 8) ∧ PW d M_Route_isGroup 0 [.ref b3] [] σ1 (kI (fun r2 σ2 => (if r2 = 0 then sh σ2 x3 = (1, 6) ∧ (∃ b4 : Nat, gR σ2 388 x3 = some b4 ∧ sh σ2 x0 = (1, 0) ∧ PW d M_Desk_channelOf 0 [.ref x0, .ref b3] [] σ2 (kI (fun r3 σ3 => (∃ n2 : Nat, sh σ3 b4 = (2, n2) ∧ vp_in r3 n2 ∧ (∀ σ4 : PH, σ4 = uI σ3 b4 (ix r3) ((-1)) → PW (d + 1) M_Desk_fileMessage 95 [.ref x0, uu, .int x2, .ref x3, .int x4, uu] [] σ4 K))) K)) else PW (d + 1) M_Desk_fileMessage 95 [.ref x0, uu, .int x2, .ref x3, .int x4, uu] [] σ2 K)) K))) K))))))) : PW (d + 1) M_Desk_fileMessage 42 [.ref x0, uu, .int x2, .ref x3, .int x4, uu] [] σ K := by
  refine pw_iload dc_Desk_fileMessage_42 rfl ?_
  refine pw_aload_n dc_Desk_fileMessage_44 rfl rfl ?_
  obtain ⟨hs1, h⟩ := h
  refine pw_getR (c := 0) (k := 3) (f := 3) dc_Desk_fileMessage_45 fl_Desk_30 rfl rfl hs1 ?_
  obtain ⟨b1, hb1, h⟩ := h
  refine PW.top (v' := .ref b1) (congrArg va_rf hb1) ?_
  obtain ⟨hs2, h⟩ := h
  refine pw_getI (c := 9) (k := 1) (f := 577) dc_Desk_fileMessage_48 fl_Desk_255 rfl rfl hs2 ?_
  refine pw_icmp_ge (tgt := 101) dc_Desk_fileMessage_51 (by decide) (fun hc => ?_) (fun hc => ?_)
  · have h := ite_t h hc
    exact pw_vret dc_Desk_fileMessage_101 rfl h
  · have h := ite_f h hc
    refine pw_aload_n dc_Desk_fileMessage_54 rfl rfl ?_
    refine pw_getR (c := 0) (k := 3) (f := 3) dc_Desk_fileMessage_55 fl_Desk_30 rfl rfl hs1 ?_
    refine PW.top (v' := .ref b1) (congrArg va_rf hb1) ?_
    refine pw_getR (c := 9) (k := 0) (f := 576) dc_Desk_fileMessage_58 fl_Desk_90 rfl rfl hs2 ?_
    obtain ⟨b2, hb2, h⟩ := h
    refine PW.top (v' := .ref b2) (congrArg va_rf hb2) ?_
    refine pw_iload dc_Desk_fileMessage_61 rfl ?_
    obtain ⟨n1, hs3, h⟩ := h
    obtain ⟨hi1, h⟩ := h
    refine pw_aald (k := 9) dc_Desk_fileMessage_63 (by unfold rk; decide) hs3 hi1 ?_
    obtain ⟨b3, hb3, h⟩ := h
    refine PW.top (v' := .ref b3) (congrArg va_rf hb3) ?_
    refine pw_astore dc_Desk_fileMessage_64 (by decide) rfl ?_
    refine pw_iload_n dc_Desk_fileMessage_66 rfl ?_
    refine pw_iload dc_Desk_fileMessage_67 rfl ?_
    refine pw_callS (vs := [.int x2, .int x4]) (st := []) dc_Desk_fileMessage_69 cq_Routes_has (List.mem_of_getElem? (i := 652) (by decide +kernel)) (List.mem_of_getElem? (i := 673) (by decide +kernel)) rfl rfl (cat_cons rfl (cat_cons rfl (cat_nil))) (Nat.le_of_ble_eq_true rfl) (PW.mono (kI_kN (fun r1 σ1 h => ?_)) h)
    refine pw_if_eq (tgt := 95) dc_Desk_fileMessage_72 (by decide) (fun hc => ?_) (fun hc => ?_)
    · have h := ite_t h hc
      refine PW.drop (ls' := [.ref x0, uu, .int x2, .ref x3, .int x4, uu]) ⟨Or.inl rfl, Or.inl rfl, Or.inl rfl, Or.inl rfl, Or.inl rfl, Or.inr rfl, trivial⟩ ?_
      exact h
    · have h := ite_f h hc
      refine pw_aload dc_Desk_fileMessage_75 rfl rfl ?_
      obtain ⟨hs4, h⟩ := h
      refine pw_callV (vs := []) (st := []) (b := b3) (cn := 8) dc_Desk_fileMessage_77 cq_Route_isGroup (List.mem_of_getElem? (i := 675) (by decide +kernel)) (List.mem_of_getElem? (i := 676) (by decide +kernel)) (List.mem_of_getElem? (i := 674) (by decide +kernel)) rfl hs4 rfl rfl (by decide) (cat_nil) (Nat.le_of_ble_eq_true rfl) (PW.mono (kI_kN (fun r2 σ2 h => ?_)) h)
      refine pw_if_ne (tgt := 95) dc_Desk_fileMessage_80 (by decide) (fun hc => ?_) (fun hc => ?_)
      · have h := ite_f h hc
        refine PW.drop (ls' := [.ref x0, uu, .int x2, .ref x3, .int x4, uu]) ⟨Or.inl rfl, Or.inl rfl, Or.inl rfl, Or.inl rfl, Or.inl rfl, Or.inr rfl, trivial⟩ ?_
        exact h
      · have h := ite_t h hc
        refine pw_aload_n dc_Desk_fileMessage_83 rfl rfl ?_
        obtain ⟨hs5, h⟩ := h
        refine pw_getR (c := 6) (k := 4) (f := 388) dc_Desk_fileMessage_84 fl_Desk_175 rfl rfl hs5 ?_
        obtain ⟨b4, hb4, h⟩ := h
        refine PW.top (v' := .ref b4) (congrArg va_rf hb4) ?_
        refine pw_aload_n dc_Desk_fileMessage_87 rfl rfl ?_
        refine pw_aload dc_Desk_fileMessage_88 rfl rfl ?_
        obtain ⟨hs6, h⟩ := h
        refine pw_callV (vs := [.ref b3]) (st := [.ref b4]) (b := x0) (cn := 0) dc_Desk_fileMessage_90 cq_Desk_channelOf (List.mem_of_getElem? (i := 680) (by decide +kernel)) (List.mem_of_getElem? (i := 21) (by decide +kernel)) (List.mem_of_getElem? (i := 678) (by decide +kernel)) rfl hs6 rfl rfl (by decide) (cat_cons rfl (cat_nil)) (Nat.le_of_ble_eq_true rfl) (PW.mono (kI_kN (fun r3 σ3 h => ?_)) h)
        refine pw_iconst (v := (-1)) dc_Desk_fileMessage_93 (by decide) ?_
        obtain ⟨n2, hs7, h⟩ := h
        obtain ⟨hi2, h⟩ := h
        have h := h _ rfl
        refine pw_iast dc_Desk_fileMessage_94 hs7 hi2 ?_
        refine PW.drop (ls' := [.ref x0, uu, .int x2, .ref x3, .int x4, uu]) ⟨Or.inl rfl, Or.inl rfl, Or.inl rfl, Or.inl rfl, Or.inl rfl, Or.inr rfl, trivial⟩ ?_
        exact h
set_option maxRecDepth 20000 in
theorem e_Desk_fileMessage_95 {d : Nat} {σ : PH} {K : PO → PH → Prop} (x0 : Nat) (x2 : Int32) (x3 : Nat) (x4 : Int32) (h : PW (d + 1) M_Desk_fileMessage 42 [.ref x0, uu, .int x2, .ref x3, .int (x4 + 1), uu] [] σ K) : PW (d + 1) M_Desk_fileMessage 95 [.ref x0, uu, .int x2, .ref x3, .int x4, uu] [] σ K := by
  refine pw_iincv (v := 1) dc_Desk_fileMessage_95 (by decide) rfl (by decide) ?_
  refine pw_goto (tgt := 42) dc_Desk_fileMessage_98 (by decide) ?_
  exact h
theorem dc_Desk_channelOf_0 : decode M_Desk_channelOf.2.1 0 = .ok (.aload_n 0, 1) := by decide +kernel
theorem dc_Desk_channelOf_1 : decode M_Desk_channelOf.2.1 1 = .ok (.getfield 11, 3) := by decide +kernel
theorem dc_Desk_channelOf_4 : decode M_Desk_channelOf.2.1 4 = .ok (.aload_n 1, 1) := by decide +kernel
theorem dc_Desk_channelOf_5 : decode M_Desk_channelOf.2.1 5 = .ok (.getfield 112, 3) := by decide +kernel
theorem dc_Desk_channelOf_8 : decode M_Desk_channelOf.2.1 8 = .ok (.aaload, 1) := by decide +kernel
theorem dc_Desk_channelOf_9 : decode M_Desk_channelOf.2.1 9 = .ok (.getfield 50, 3) := by decide +kernel
theorem dc_Desk_channelOf_12 : decode M_Desk_channelOf.2.1 12 = .ok (.ifCond .ne 23, 3) := by decide +kernel
theorem dc_Desk_channelOf_15 : decode M_Desk_channelOf.2.1 15 = .ok (.aload_n 0, 1) := by decide +kernel
theorem dc_Desk_channelOf_16 : decode M_Desk_channelOf.2.1 16 = .ok (.getfield 11, 3) := by decide +kernel
theorem dc_Desk_channelOf_19 : decode M_Desk_channelOf.2.1 19 = .ok (.aload_n 1, 1) := by decide +kernel
theorem dc_Desk_channelOf_20 : decode M_Desk_channelOf.2.1 20 = .ok (.getfield 115, 3) := by decide +kernel
theorem dc_Desk_channelOf_23 : decode M_Desk_channelOf.2.1 23 = .ok (.aaload, 1) := by decide +kernel
theorem dc_Desk_channelOf_24 : decode M_Desk_channelOf.2.1 24 = .ok (.getfield 50, 3) := by decide +kernel
theorem dc_Desk_channelOf_27 : decode M_Desk_channelOf.2.1 27 = .ok (.ifCond .eq 8, 3) := by decide +kernel
theorem dc_Desk_channelOf_30 : decode M_Desk_channelOf.2.1 30 = .ok (.aload_n 1, 1) := by decide +kernel
theorem dc_Desk_channelOf_31 : decode M_Desk_channelOf.2.1 31 = .ok (.getfield 115, 3) := by decide +kernel
theorem dc_Desk_channelOf_34 : decode M_Desk_channelOf.2.1 34 = .ok (.ireturn, 1) := by decide +kernel
theorem dc_Desk_channelOf_35 : decode M_Desk_channelOf.2.1 35 = .ok (.aload_n 1, 1) := by decide +kernel
theorem dc_Desk_channelOf_36 : decode M_Desk_channelOf.2.1 36 = .ok (.getfield 112, 3) := by decide +kernel
theorem dc_Desk_channelOf_39 : decode M_Desk_channelOf.2.1 39 = .ok (.ireturn, 1) := by decide +kernel
set_option maxRecDepth 20000 in
theorem e_Desk_channelOf_0 {d : Nat} {σ : PH} {K : PO → PH → Prop} (x0 : Nat) (x1 : Nat) (h : sh σ x0 = (1, 0) ∧ (∃ b1 : Nat, gR σ 0 x0 = some b1 ∧ sh σ x1 = (1, 8) ∧ (∃ n1 : Nat, sh σ b1 = (6, n1) ∧ vp_in (gI σ 513 x1) n1 ∧ (∃ b2 : Nat, eR σ b1 (ix (gI σ 513 x1)) = some b2 ∧ sh σ b2 = (1, 1) ∧ (if (gI σ 64 b2) = 0 then vp_in (gI σ 514 x1) n1 ∧ (∃ b3 : Nat, eR σ b1 (ix (gI σ 514 x1)) = some b3 ∧ sh σ b3 = (1, 1) ∧ (if (gI σ 64 b3) = 0 then K (.inl (some (.int (gI σ 513 x1)))) σ else K (.inl (some (.int (gI σ 514 x1)))) σ)) else K (.inl (some (.int (gI σ 513 x1)))) σ))))) : PW d M_Desk_channelOf 0 [.ref x0, .ref x1] [] σ K := by
  refine pw_aload_n dc_Desk_channelOf_0 rfl rfl ?_
  obtain ⟨hs1, h⟩ := h
  refine pw_getR (c := 0) (k := 0) (f := 0) dc_Desk_channelOf_1 fl_Desk_11 rfl rfl hs1 ?_
  obtain ⟨b1, hb1, h⟩ := h
  refine PW.top (v' := .ref b1) (congrArg va_rf hb1) ?_
  refine pw_aload_n dc_Desk_channelOf_4 rfl rfl ?_
  obtain ⟨hs2, h⟩ := h
  refine pw_getI (c := 8) (k := 1) (f := 513) dc_Desk_channelOf_5 fl_Desk_112 rfl rfl hs2 ?_
  obtain ⟨n1, hs3, h⟩ := h
  obtain ⟨hi1, h⟩ := h
  refine pw_aald (k := 6) dc_Desk_channelOf_8 (by unfold rk; decide) hs3 hi1 ?_
  obtain ⟨b2, hb2, h⟩ := h
  refine PW.top (v' := .ref b2) (congrArg va_rf hb2) ?_
  obtain ⟨hs4, h⟩ := h
  refine pw_getI (c := 1) (k := 0) (f := 64) dc_Desk_channelOf_9 fl_Desk_50 rfl rfl hs4 ?_
  refine pw_if_ne (tgt := 35) dc_Desk_channelOf_12 (by decide) (fun hc => ?_) (fun hc => ?_)
  · have h := ite_f h hc
    refine pw_aload_n dc_Desk_channelOf_35 rfl rfl ?_
    refine pw_getI (c := 8) (k := 1) (f := 513) dc_Desk_channelOf_36 fl_Desk_112 rfl rfl hs2 ?_
    exact pw_iret dc_Desk_channelOf_39 rfl rfl h
  · have h := ite_t h hc
    refine pw_aload_n dc_Desk_channelOf_15 rfl rfl ?_
    refine pw_getR (c := 0) (k := 0) (f := 0) dc_Desk_channelOf_16 fl_Desk_11 rfl rfl hs1 ?_
    refine PW.top (v' := .ref b1) (congrArg va_rf hb1) ?_
    refine pw_aload_n dc_Desk_channelOf_19 rfl rfl ?_
    refine pw_getI (c := 8) (k := 2) (f := 514) dc_Desk_channelOf_20 fl_Desk_115 rfl rfl hs2 ?_
    obtain ⟨hi2, h⟩ := h
    refine pw_aald (k := 6) dc_Desk_channelOf_23 (by unfold rk; decide) hs3 hi2 ?_
    obtain ⟨b3, hb3, h⟩ := h
    refine PW.top (v' := .ref b3) (congrArg va_rf hb3) ?_
    obtain ⟨hs5, h⟩ := h
    refine pw_getI (c := 1) (k := 0) (f := 64) dc_Desk_channelOf_24 fl_Desk_50 rfl rfl hs5 ?_
    refine pw_if_eq (tgt := 35) dc_Desk_channelOf_27 (by decide) (fun hc => ?_) (fun hc => ?_)
    · have h := ite_t h hc
      refine pw_aload_n dc_Desk_channelOf_35 rfl rfl ?_
      refine pw_getI (c := 8) (k := 1) (f := 513) dc_Desk_channelOf_36 fl_Desk_112 rfl rfl hs2 ?_
      exact pw_iret dc_Desk_channelOf_39 rfl rfl h
    · have h := ite_f h hc
      refine pw_aload_n dc_Desk_channelOf_30 rfl rfl ?_
      refine pw_getI (c := 8) (k := 2) (f := 514) dc_Desk_channelOf_31 fl_Desk_115 rfl rfl hs2 ?_
      exact pw_iret dc_Desk_channelOf_34 rfl rfl h
theorem dc_Desk_firstWaiting_0 : decode M_Desk_firstWaiting.2.1 0 = .ok (.aconst_null, 1) := by decide +kernel
theorem dc_Desk_firstWaiting_1 : decode M_Desk_firstWaiting.2.1 1 = .ok (.astore_n 2, 1) := by decide +kernel
theorem dc_Desk_firstWaiting_2 : decode M_Desk_firstWaiting.2.1 2 = .ok (.iconst 0, 1) := by decide +kernel
theorem dc_Desk_firstWaiting_3 : decode M_Desk_firstWaiting.2.1 3 = .ok (.istore_n 3, 1) := by decide +kernel
theorem dc_Desk_firstWaiting_4 : decode M_Desk_firstWaiting.2.1 4 = .ok (.iload_n 3, 1) := by decide +kernel
theorem dc_Desk_firstWaiting_5 : decode M_Desk_firstWaiting.2.1 5 = .ok (.aload_n 0, 1) := by decide +kernel
theorem dc_Desk_firstWaiting_6 : decode M_Desk_firstWaiting.2.1 6 = .ok (.getfield 166, 3) := by decide +kernel
theorem dc_Desk_firstWaiting_9 : decode M_Desk_firstWaiting.2.1 9 = .ok (.if_icmp .ge 45, 3) := by decide +kernel
theorem dc_Desk_firstWaiting_12 : decode M_Desk_firstWaiting.2.1 12 = .ok (.aload_n 0, 1) := by decide +kernel
theorem dc_Desk_firstWaiting_13 : decode M_Desk_firstWaiting.2.1 13 = .ok (.getfield 17, 3) := by decide +kernel
theorem dc_Desk_firstWaiting_16 : decode M_Desk_firstWaiting.2.1 16 = .ok (.iload_n 3, 1) := by decide +kernel
theorem dc_Desk_firstWaiting_17 : decode M_Desk_firstWaiting.2.1 17 = .ok (.aaload, 1) := by decide +kernel
theorem dc_Desk_firstWaiting_18 : decode M_Desk_firstWaiting.2.1 18 = .ok (.astore 4, 2) := by decide +kernel
theorem dc_Desk_firstWaiting_20 : decode M_Desk_firstWaiting.2.1 20 = .ok (.aload 4, 2) := by decide +kernel
theorem dc_Desk_firstWaiting_22 : decode M_Desk_firstWaiting.2.1 22 = .ok (.iload_n 1, 1) := by decide +kernel
theorem dc_Desk_firstWaiting_23 : decode M_Desk_firstWaiting.2.1 23 = .ok (.invokevirtual 169, 3) := by decide +kernel
theorem dc_Desk_firstWaiting_26 : decode M_Desk_firstWaiting.2.1 26 = .ok (.ifCond .eq 22, 3) := by decide +kernel
theorem dc_Desk_firstWaiting_29 : decode M_Desk_firstWaiting.2.1 29 = .ok (.aload_n 2, 1) := by decide +kernel
theorem dc_Desk_firstWaiting_30 : decode M_Desk_firstWaiting.2.1 30 = .ok (.ifnull 15, 3) := by decide +kernel
theorem dc_Desk_firstWaiting_33 : decode M_Desk_firstWaiting.2.1 33 = .ok (.aload 4, 2) := by decide +kernel
theorem dc_Desk_firstWaiting_35 : decode M_Desk_firstWaiting.2.1 35 = .ok (.getfield 172, 3) := by decide +kernel
theorem dc_Desk_firstWaiting_38 : decode M_Desk_firstWaiting.2.1 38 = .ok (.aload_n 2, 1) := by decide +kernel
theorem dc_Desk_firstWaiting_39 : decode M_Desk_firstWaiting.2.1 39 = .ok (.getfield 172, 3) := by decide +kernel
theorem dc_Desk_firstWaiting_42 : decode M_Desk_firstWaiting.2.1 42 = .ok (.if_icmp .ge 6, 3) := by decide +kernel
theorem dc_Desk_firstWaiting_45 : decode M_Desk_firstWaiting.2.1 45 = .ok (.aload 4, 2) := by decide +kernel
theorem dc_Desk_firstWaiting_47 : decode M_Desk_firstWaiting.2.1 47 = .ok (.astore_n 2, 1) := by decide +kernel
theorem dc_Desk_firstWaiting_48 : decode M_Desk_firstWaiting.2.1 48 = .ok (.iinc 3 1, 3) := by decide +kernel
theorem dc_Desk_firstWaiting_51 : decode M_Desk_firstWaiting.2.1 51 = .ok (.goto (-47), 3) := by decide +kernel
theorem dc_Desk_firstWaiting_54 : decode M_Desk_firstWaiting.2.1 54 = .ok (.aload_n 2, 1) := by decide +kernel
theorem dc_Desk_firstWaiting_55 : decode M_Desk_firstWaiting.2.1 55 = .ok (.areturn, 1) := by decide +kernel
set_option maxRecDepth 20000 in
theorem e_Desk_firstWaiting_0 {d : Nat} {σ : PH} {K : PO → PH → Prop} (x0 : Nat) (x1 : Int32) (h : PW (d + 1) M_Desk_firstWaiting 4 [.ref x0, .int x1, va_rf none, .int 0, uu] [] σ K) : PW (d + 1) M_Desk_firstWaiting 0 [.ref x0, .int x1, uu, uu, uu] [] σ K := by
  refine pw_null dc_Desk_firstWaiting_0 ?_
  refine pw_astore_n dc_Desk_firstWaiting_1 (by decide) rfl ?_
  refine pw_iconst (v := 0) dc_Desk_firstWaiting_2 (by decide) ?_
  refine pw_istore_n dc_Desk_firstWaiting_3 (by decide) ?_
  exact h
set_option maxRecDepth 20000 in
theorem e_Desk_firstWaiting_4 {d : Nat} {σ : PH} {K : PO → PH → Prop} (x0 : Nat) (x1 : Int32) (x2 : Option Nat) (x3 : Int32) (h : sh σ x0 = (1, 0) ∧ (if (gI σ 5 x0) ≤ x3 then K (.inl (some (va_rf x2))) σ else (∃ b1 : Nat, gR σ 1 x0 = some b1 ∧ (∃ n1 : Nat, sh σ b1 = (7, n1) ∧ vp_in x3 n1 ∧ (∃ b2 : Nat, eR σ b1 (ix x3) = some b2 ∧ sh σ b2 = (1, 6) ∧ PW d M_Message_waitsOn 0 [.ref b2, .int x1] [] σ (kI (fun r1 σ1 => (if r1 = 0 then PW (d + 1) M_Desk_firstWaiting 48 [.ref x0, .int x1, va_rf x2, .int x3, uu] [] σ1 K else (if x2 = none then PW (d + 1) M_Desk_firstWaiting 45 [.ref x0, .int x1, uu, .int x3, .ref b2] [] σ1 K else sh σ1 b2 = (1, 6) ∧ (∃ b3 : Nat, x2 = some b3 ∧ sh σ1 b3 = (1, 6) ∧ (if (gI σ1 384 b3) ≤ (gI σ1 384 b2) then PW (d + 1) M_Desk_firstWaiting 48 [.ref x0, .int x1, va_rf x2, .int x3, uu] [] σ1 K else PW (d + 1) M_Desk_firstWaiting 45 [.ref x0, .int x1, uu, .int x3, .ref b2] [] σ1 K))))) K)))))) : PW (d + 1) M_Desk_firstWaiting 4 [.ref x0, .int x1, va_rf x2, .int x3, uu] [] σ K := by
  refine pw_iload_n dc_Desk_firstWaiting_4 rfl ?_
  refine pw_aload_n dc_Desk_firstWaiting_5 rfl rfl ?_
  obtain ⟨hs1, h⟩ := h
  refine pw_getI (c := 0) (k := 5) (f := 5) dc_Desk_firstWaiting_6 fl_Desk_166 rfl rfl hs1 ?_
  refine pw_icmp_ge (tgt := 54) dc_Desk_firstWaiting_9 (by decide) (fun hc => ?_) (fun hc => ?_)
  · have h := ite_t h hc
    refine pw_aload_n dc_Desk_firstWaiting_54 rfl (va_rf_ref _) ?_
    exact pw_aret (v := x2) dc_Desk_firstWaiting_55 rfl h
  · have h := ite_f h hc
    refine pw_aload_n dc_Desk_firstWaiting_12 rfl rfl ?_
    refine pw_getR (c := 0) (k := 1) (f := 1) dc_Desk_firstWaiting_13 fl_Desk_17 rfl rfl hs1 ?_
    obtain ⟨b1, hb1, h⟩ := h
    refine PW.top (v' := .ref b1) (congrArg va_rf hb1) ?_
    refine pw_iload_n dc_Desk_firstWaiting_16 rfl ?_
    obtain ⟨n1, hs2, h⟩ := h
    obtain ⟨hi1, h⟩ := h
    refine pw_aald (k := 7) dc_Desk_firstWaiting_17 (by unfold rk; decide) hs2 hi1 ?_
    obtain ⟨b2, hb2, h⟩ := h
    refine PW.top (v' := .ref b2) (congrArg va_rf hb2) ?_
    refine pw_astore dc_Desk_firstWaiting_18 (by decide) rfl ?_
    refine pw_aload dc_Desk_firstWaiting_20 rfl rfl ?_
    refine pw_iload_n dc_Desk_firstWaiting_22 rfl ?_
    obtain ⟨hs3, h⟩ := h
    refine pw_callV (vs := [.int x1]) (st := []) (b := b2) (cn := 6) dc_Desk_firstWaiting_23 cq_Message_waitsOn (List.mem_of_getElem? (i := 813) (by decide +kernel)) (List.mem_of_getElem? (i := 814) (by decide +kernel)) (List.mem_of_getElem? (i := 812) (by decide +kernel)) rfl hs3 rfl rfl (by decide) (cat_cons rfl (cat_nil)) (Nat.le_of_ble_eq_true rfl) (PW.mono (kI_kN (fun r1 σ1 h => ?_)) h)
    refine pw_if_eq (tgt := 48) dc_Desk_firstWaiting_26 (by decide) (fun hc => ?_) (fun hc => ?_)
    · have h := ite_t h hc
      refine PW.drop (ls' := [.ref x0, .int x1, va_rf x2, .int x3, uu]) ⟨Or.inl rfl, Or.inl rfl, Or.inl rfl, Or.inl rfl, Or.inr rfl, trivial⟩ ?_
      exact h
    · have h := ite_f h hc
      refine pw_aload_n dc_Desk_firstWaiting_29 rfl (va_rf_ref _) ?_
      refine pw_ifnull (v := x2) (tgt := 45) dc_Desk_firstWaiting_30 (by decide) (fun hc => ?_) (fun hc => ?_)
      · have h := ite_t h hc
        refine PW.drop (ls' := [.ref x0, .int x1, uu, .int x3, .ref b2]) ⟨Or.inl rfl, Or.inl rfl, Or.inr rfl, Or.inl rfl, Or.inl rfl, trivial⟩ ?_
        exact h
      · have h := ite_f h hc
        refine pw_aload dc_Desk_firstWaiting_33 rfl rfl ?_
        obtain ⟨hs4, h⟩ := h
        refine pw_getI (c := 6) (k := 0) (f := 384) dc_Desk_firstWaiting_35 fl_Desk_172 rfl rfl hs4 ?_
        refine pw_aload_n dc_Desk_firstWaiting_38 rfl (va_rf_ref _) ?_
        obtain ⟨b3, hb3, h⟩ := h
        refine PW.top (v' := .ref b3) (congrArg va_rf hb3) ?_
        obtain ⟨hs5, h⟩ := h
        refine pw_getI (c := 6) (k := 0) (f := 384) dc_Desk_firstWaiting_39 fl_Desk_172 rfl rfl hs5 ?_
        refine pw_icmp_ge (tgt := 48) dc_Desk_firstWaiting_42 (by decide) (fun hc => ?_) (fun hc => ?_)
        · have h := ite_t h hc
          refine PW.drop (ls' := [.ref x0, .int x1, va_rf x2, .int x3, uu]) ⟨Or.inl rfl, Or.inl rfl, Or.inl rfl, Or.inl rfl, Or.inr rfl, trivial⟩ ?_
          exact h
        · have h := ite_f h hc
          refine PW.drop (ls' := [.ref x0, .int x1, uu, .int x3, .ref b2]) ⟨Or.inl rfl, Or.inl rfl, Or.inr rfl, Or.inl rfl, Or.inl rfl, trivial⟩ ?_
          exact h
set_option maxRecDepth 20000 in
theorem e_Desk_firstWaiting_45 {d : Nat} {σ : PH} {K : PO → PH → Prop} (x0 : Nat) (x1 : Int32) (x3 : Int32) (x4 : Nat) (h : PW (d + 1) M_Desk_firstWaiting 48 [.ref x0, .int x1, va_rf (some x4), .int x3, uu] [] σ K) : PW (d + 1) M_Desk_firstWaiting 45 [.ref x0, .int x1, uu, .int x3, .ref x4] [] σ K := by
  refine pw_aload dc_Desk_firstWaiting_45 rfl rfl ?_
  refine pw_astore_n dc_Desk_firstWaiting_47 (by decide) rfl ?_
  refine PW.drop (ls' := [.ref x0, .int x1, va_rf (some x4), .int x3, uu]) ⟨Or.inl rfl, Or.inl rfl, Or.inl rfl, Or.inl rfl, Or.inr rfl, trivial⟩ ?_
  exact h
set_option maxRecDepth 20000 in
theorem e_Desk_firstWaiting_48 {d : Nat} {σ : PH} {K : PO → PH → Prop} (x0 : Nat) (x1 : Int32) (x2 : Option Nat) (x3 : Int32) (h : PW (d + 1) M_Desk_firstWaiting 4 [.ref x0, .int x1, va_rf x2, .int (x3 + 1), uu] [] σ K) : PW (d + 1) M_Desk_firstWaiting 48 [.ref x0, .int x1, va_rf x2, .int x3, uu] [] σ K := by
  refine pw_iincv (v := 1) dc_Desk_firstWaiting_48 (by decide) rfl (by decide) ?_
  refine pw_goto (tgt := 4) dc_Desk_firstWaiting_51 (by decide) ?_
  exact h
theorem dc_Desk_casesNotClosed_0 : decode M_Desk_casesNotClosed.2.1 0 = .ok (.iconst 0, 1) := by decide +kernel
theorem dc_Desk_casesNotClosed_1 : decode M_Desk_casesNotClosed.2.1 1 = .ok (.istore_n 1, 1) := by decide +kernel
theorem dc_Desk_casesNotClosed_2 : decode M_Desk_casesNotClosed.2.1 2 = .ok (.iconst 0, 1) := by decide +kernel
theorem dc_Desk_casesNotClosed_3 : decode M_Desk_casesNotClosed.2.1 3 = .ok (.istore_n 2, 1) := by decide +kernel
theorem dc_Desk_casesNotClosed_4 : decode M_Desk_casesNotClosed.2.1 4 = .ok (.iload_n 2, 1) := by decide +kernel
theorem dc_Desk_casesNotClosed_5 : decode M_Desk_casesNotClosed.2.1 5 = .ok (.aload_n 0, 1) := by decide +kernel
theorem dc_Desk_casesNotClosed_6 : decode M_Desk_casesNotClosed.2.1 6 = .ok (.getfield 179, 3) := by decide +kernel
theorem dc_Desk_casesNotClosed_9 : decode M_Desk_casesNotClosed.2.1 9 = .ok (.if_icmp .ge 24, 3) := by decide +kernel
theorem dc_Desk_casesNotClosed_12 : decode M_Desk_casesNotClosed.2.1 12 = .ok (.aload_n 0, 1) := by decide +kernel
theorem dc_Desk_casesNotClosed_13 : decode M_Desk_casesNotClosed.2.1 13 = .ok (.getfield 23, 3) := by decide +kernel
theorem dc_Desk_casesNotClosed_16 : decode M_Desk_casesNotClosed.2.1 16 = .ok (.iload_n 2, 1) := by decide +kernel
theorem dc_Desk_casesNotClosed_17 : decode M_Desk_casesNotClosed.2.1 17 = .ok (.aaload, 1) := by decide +kernel
theorem dc_Desk_casesNotClosed_18 : decode M_Desk_casesNotClosed.2.1 18 = .ok (.invokevirtual 191, 3) := by decide +kernel
theorem dc_Desk_casesNotClosed_21 : decode M_Desk_casesNotClosed.2.1 21 = .ok (.ifCond .ne 6, 3) := by decide +kernel
theorem dc_Desk_casesNotClosed_24 : decode M_Desk_casesNotClosed.2.1 24 = .ok (.iinc 1 1, 3) := by decide +kernel
theorem dc_Desk_casesNotClosed_27 : decode M_Desk_casesNotClosed.2.1 27 = .ok (.iinc 2 1, 3) := by decide +kernel
theorem dc_Desk_casesNotClosed_30 : decode M_Desk_casesNotClosed.2.1 30 = .ok (.goto (-26), 3) := by decide +kernel
theorem dc_Desk_casesNotClosed_33 : decode M_Desk_casesNotClosed.2.1 33 = .ok (.iload_n 1, 1) := by decide +kernel
theorem dc_Desk_casesNotClosed_34 : decode M_Desk_casesNotClosed.2.1 34 = .ok (.ireturn, 1) := by decide +kernel
set_option maxRecDepth 20000 in
theorem e_Desk_casesNotClosed_0 {d : Nat} {σ : PH} {K : PO → PH → Prop} (x0 : Nat) (h : PW (d + 1) M_Desk_casesNotClosed 4 [.ref x0, .int 0, .int 0] [] σ K) : PW (d + 1) M_Desk_casesNotClosed 0 [.ref x0, uu, uu] [] σ K := by
  refine pw_iconst (v := 0) dc_Desk_casesNotClosed_0 (by decide) ?_
  refine pw_istore_n dc_Desk_casesNotClosed_1 (by decide) ?_
  refine pw_iconst (v := 0) dc_Desk_casesNotClosed_2 (by decide) ?_
  refine pw_istore_n dc_Desk_casesNotClosed_3 (by decide) ?_
  exact h
set_option maxRecDepth 20000 in
theorem e_Desk_casesNotClosed_4 {d : Nat} {σ : PH} {K : PO → PH → Prop} (x0 : Nat) (x1 : Int32) (x2 : Int32) (h : sh σ x0 = (1, 0) ∧ (if (gI σ 6 x0) ≤ x2 then K (.inl (some (.int x1))) σ else (∃ b1 : Nat, gR σ 2 x0 = some b1 ∧ (∃ n1 : Nat, sh σ b1 = (8, n1) ∧ vp_in x2 n1 ∧ (∃ b2 : Nat, eR σ b1 (ix x2) = some b2 ∧ sh σ b2 = (1, 7) ∧ PW d M_Case_isClosed 0 [.ref b2] [] σ (kI (fun r1 σ1 => (if r1 = 0 then PW (d + 1) M_Desk_casesNotClosed 27 [.ref x0, .int (x1 + 1), .int x2] [] σ1 K else PW (d + 1) M_Desk_casesNotClosed 27 [.ref x0, .int x1, .int x2] [] σ1 K)) K)))))) : PW (d + 1) M_Desk_casesNotClosed 4 [.ref x0, .int x1, .int x2] [] σ K := by
  refine pw_iload_n dc_Desk_casesNotClosed_4 rfl ?_
  refine pw_aload_n dc_Desk_casesNotClosed_5 rfl rfl ?_
  obtain ⟨hs1, h⟩ := h
  refine pw_getI (c := 0) (k := 6) (f := 6) dc_Desk_casesNotClosed_6 fl_Desk_179 rfl rfl hs1 ?_
  refine pw_icmp_ge (tgt := 33) dc_Desk_casesNotClosed_9 (by decide) (fun hc => ?_) (fun hc => ?_)
  · have h := ite_t h hc
    refine pw_iload_n dc_Desk_casesNotClosed_33 rfl ?_
    exact pw_iret dc_Desk_casesNotClosed_34 rfl rfl h
  · have h := ite_f h hc
    refine pw_aload_n dc_Desk_casesNotClosed_12 rfl rfl ?_
    refine pw_getR (c := 0) (k := 2) (f := 2) dc_Desk_casesNotClosed_13 fl_Desk_23 rfl rfl hs1 ?_
    obtain ⟨b1, hb1, h⟩ := h
    refine PW.top (v' := .ref b1) (congrArg va_rf hb1) ?_
    refine pw_iload_n dc_Desk_casesNotClosed_16 rfl ?_
    obtain ⟨n1, hs2, h⟩ := h
    obtain ⟨hi1, h⟩ := h
    refine pw_aald (k := 8) dc_Desk_casesNotClosed_17 (by unfold rk; decide) hs2 hi1 ?_
    obtain ⟨b2, hb2, h⟩ := h
    refine PW.top (v' := .ref b2) (congrArg va_rf hb2) ?_
    obtain ⟨hs3, h⟩ := h
    refine pw_callV (vs := []) (st := []) (b := b2) (cn := 7) dc_Desk_casesNotClosed_18 cq_Case_isClosed (List.mem_of_getElem? (i := 390) (by decide +kernel)) (List.mem_of_getElem? (i := 391) (by decide +kernel)) (List.mem_of_getElem? (i := 389) (by decide +kernel)) rfl hs3 rfl rfl (by decide) (cat_nil) (Nat.le_of_ble_eq_true rfl) (PW.mono (kI_kN (fun r1 σ1 h => ?_)) h)
    refine pw_if_ne (tgt := 27) dc_Desk_casesNotClosed_21 (by decide) (fun hc => ?_) (fun hc => ?_)
    · have h := ite_f h hc
      exact h
    · have h := ite_t h hc
      refine pw_iincv (v := 1) dc_Desk_casesNotClosed_24 (by decide) rfl (by decide) ?_
      exact h
set_option maxRecDepth 20000 in
theorem e_Desk_casesNotClosed_27 {d : Nat} {σ : PH} {K : PO → PH → Prop} (x0 : Nat) (x1 : Int32) (x2 : Int32) (h : PW (d + 1) M_Desk_casesNotClosed 4 [.ref x0, .int x1, .int (x2 + 1)] [] σ K) : PW (d + 1) M_Desk_casesNotClosed 27 [.ref x0, .int x1, .int x2] [] σ K := by
  refine pw_iincv (v := 1) dc_Desk_casesNotClosed_27 (by decide) rfl (by decide) ?_
  refine pw_goto (tgt := 4) dc_Desk_casesNotClosed_30 (by decide) ?_
  exact h
