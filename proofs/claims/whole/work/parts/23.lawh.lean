theorem dc_Law_sign_0 : decode M_Law_sign.2.1 0 = .ok (.aload_n 3, 1) := by decide +kernel
theorem dc_Law_sign_1 : decode M_Law_sign.2.1 1 = .ok (.iconst 0, 1) := by decide +kernel
theorem dc_Law_sign_2 : decode M_Law_sign.2.1 2 = .ok (.aload_n 0, 1) := by decide +kernel
theorem dc_Law_sign_3 : decode M_Law_sign.2.1 3 = .ok (.iload_n 1, 1) := by decide +kernel
theorem dc_Law_sign_4 : decode M_Law_sign.2.1 4 = .ok (.iload_n 2, 1) := by decide +kernel
theorem dc_Law_sign_5 : decode M_Law_sign.2.1 5 = .ok (.invokevirtual 7, 3) := by decide +kernel
theorem dc_Law_sign_8 : decode M_Law_sign.2.1 8 = .ok (.i2l, 1) := by decide +kernel
theorem dc_Law_sign_9 : decode M_Law_sign.2.1 9 = .ok (.lastore, 1) := by decide +kernel
theorem dc_Law_sign_10 : decode M_Law_sign.2.1 10 = .ok (.goto 7, 3) := by decide +kernel
theorem dc_Law_sign_13 : decode M_Law_sign.2.1 13 = .ok (.astore 4, 2) := by decide +kernel
theorem dc_Law_sign_15 : decode M_Law_sign.2.1 15 = .ok (.iconst 1, 1) := by decide +kernel
theorem dc_Law_sign_16 : decode M_Law_sign.2.1 16 = .ok (.ireturn, 1) := by decide +kernel
theorem dc_Law_sign_17 : decode M_Law_sign.2.1 17 = .ok (.iconst 0, 1) := by decide +kernel
theorem dc_Law_sign_18 : decode M_Law_sign.2.1 18 = .ok (.ireturn, 1) := by decide +kernel
set_option maxRecDepth 20000 in
theorem e_Law_sign_0 {d : Nat} {σ : PH} {K : PO → PH → Prop} (x0 : Nat) (x1 : Int32) (x2 : Int32) (x3 : Nat) (h : sh σ x0 = (1, 0) ∧ PW d M_Desk_sign 0 [.ref x0, .int x1, .int x2, uu, uu] [] σ (kHI (fun r1 σ1 => (∃ n1 : Nat, sh σ1 x3 = (5, n1) ∧ vp_in 0 n1 ∧ (∀ σ2 : PH, σ2 = uL σ1 x3 (ix 0) r1.toInt64 → K (.inl (some (.int 0))) σ2))) (fun σ1 => K (.inl (some (.int 1))) σ1) (fun _ => False))) : PW (d + 1) M_Law_sign 0 [.ref x0, .int x1, .int x2, .ref x3, uu] [] σ K := by
  refine pw_aload_n dc_Law_sign_0 rfl rfl ?_
  refine pw_iconst (v := 0) dc_Law_sign_1 (by decide) ?_
  refine pw_aload_n dc_Law_sign_2 rfl rfl ?_
  refine pw_iload_n dc_Law_sign_3 rfl ?_
  refine pw_iload_n dc_Law_sign_4 rfl ?_
  obtain ⟨hs1, h⟩ := h
  refine pw_callVC (hs := [13]) (vs := [.int x1, .int x2]) (st := [.int 0, .ref x3]) (b := x0) (cn := 0) dc_Law_sign_5 cq_Desk_sign (List.mem_of_getElem? (i := 398) (by decide +kernel)) (List.mem_of_getElem? (i := 399) (by decide +kernel)) (List.mem_of_getElem? (i := 397) (by decide +kernel)) rfl hs1 ⟨0, 10, 13, 13, by decide, by decide, by decide, List.mem_of_getElem? (i := 396) (by decide +kernel), Or.inl ⟨rfl, rfl⟩⟩ rfl (by decide) (cat_cons rfl (cat_cons rfl (cat_nil))) (Nat.le_of_ble_eq_true rfl) (PW.mono (kHI_kC1 (fun r1 σ1 h => ?_) (fun σ1 h a => ?_)) h)
  · refine pw_i2l dc_Law_sign_8 ?_
    obtain ⟨n1, hs2, h⟩ := h
    obtain ⟨hi1, h⟩ := h
    have h := h _ rfl
    refine pw_last dc_Law_sign_9 hs2 hi1 ?_
    refine pw_goto (tgt := 17) dc_Law_sign_10 (by decide) ?_
    refine pw_iconst (v := 0) dc_Law_sign_17 (by decide) ?_
    exact pw_iret dc_Law_sign_18 rfl rfl h
  · refine pw_astore dc_Law_sign_13 (by decide) rfl ?_
    refine pw_iconst (v := 1) dc_Law_sign_15 (by decide) ?_
    exact pw_iret dc_Law_sign_16 rfl rfl h
theorem dc_Law_receipt_0 : decode M_Law_receipt.2.1 0 = .ok (.aload_n 2, 1) := by decide +kernel
theorem dc_Law_receipt_1 : decode M_Law_receipt.2.1 1 = .ok (.iconst 0, 1) := by decide +kernel
theorem dc_Law_receipt_2 : decode M_Law_receipt.2.1 2 = .ok (.aload_n 0, 1) := by decide +kernel
theorem dc_Law_receipt_3 : decode M_Law_receipt.2.1 3 = .ok (.iload_n 1, 1) := by decide +kernel
theorem dc_Law_receipt_4 : decode M_Law_receipt.2.1 4 = .ok (.invokevirtual 15, 3) := by decide +kernel
theorem dc_Law_receipt_7 : decode M_Law_receipt.2.1 7 = .ok (.i2l, 1) := by decide +kernel
theorem dc_Law_receipt_8 : decode M_Law_receipt.2.1 8 = .ok (.lastore, 1) := by decide +kernel
theorem dc_Law_receipt_9 : decode M_Law_receipt.2.1 9 = .ok (.goto 6, 3) := by decide +kernel
theorem dc_Law_receipt_12 : decode M_Law_receipt.2.1 12 = .ok (.astore_n 3, 1) := by decide +kernel
theorem dc_Law_receipt_13 : decode M_Law_receipt.2.1 13 = .ok (.iconst 1, 1) := by decide +kernel
theorem dc_Law_receipt_14 : decode M_Law_receipt.2.1 14 = .ok (.ireturn, 1) := by decide +kernel
theorem dc_Law_receipt_15 : decode M_Law_receipt.2.1 15 = .ok (.iconst 0, 1) := by decide +kernel
theorem dc_Law_receipt_16 : decode M_Law_receipt.2.1 16 = .ok (.ireturn, 1) := by decide +kernel
set_option maxRecDepth 20000 in
theorem e_Law_receipt_0 {d : Nat} {σ : PH} {K : PO → PH → Prop} (x0 : Nat) (x1 : Int32) (x2 : Nat) (h : sh σ x0 = (1, 0) ∧ PW d M_Desk_receipt 0 [.ref x0, .int x1] [] σ (kHI (fun r1 σ1 => (∃ n1 : Nat, sh σ1 x2 = (5, n1) ∧ vp_in 0 n1 ∧ (∀ σ2 : PH, σ2 = uL σ1 x2 (ix 0) r1.toInt64 → K (.inl (some (.int 0))) σ2))) (fun σ1 => K (.inl (some (.int 1))) σ1) (fun _ => False))) : PW (d + 1) M_Law_receipt 0 [.ref x0, .int x1, .ref x2, uu] [] σ K := by
  refine pw_aload_n dc_Law_receipt_0 rfl rfl ?_
  refine pw_iconst (v := 0) dc_Law_receipt_1 (by decide) ?_
  refine pw_aload_n dc_Law_receipt_2 rfl rfl ?_
  refine pw_iload_n dc_Law_receipt_3 rfl ?_
  obtain ⟨hs1, h⟩ := h
  refine pw_callVC (hs := [12]) (vs := [.int x1]) (st := [.int 0, .ref x2]) (b := x0) (cn := 0) dc_Law_receipt_4 cq_Desk_receipt (List.mem_of_getElem? (i := 691) (by decide +kernel)) (List.mem_of_getElem? (i := 692) (by decide +kernel)) (List.mem_of_getElem? (i := 690) (by decide +kernel)) rfl hs1 ⟨0, 9, 12, 13, by decide, by decide, by decide, List.mem_of_getElem? (i := 396) (by decide +kernel), Or.inl ⟨rfl, rfl⟩⟩ rfl (by decide) (cat_cons rfl (cat_nil)) (Nat.le_of_ble_eq_true rfl) (PW.mono (kHI_kC1 (fun r1 σ1 h => ?_) (fun σ1 h a => ?_)) h)
  · refine pw_i2l dc_Law_receipt_7 ?_
    obtain ⟨n1, hs2, h⟩ := h
    obtain ⟨hi1, h⟩ := h
    have h := h _ rfl
    refine pw_last dc_Law_receipt_8 hs2 hi1 ?_
    refine pw_goto (tgt := 15) dc_Law_receipt_9 (by decide) ?_
    refine pw_iconst (v := 0) dc_Law_receipt_15 (by decide) ?_
    exact pw_iret dc_Law_receipt_16 rfl rfl h
  · refine pw_astore_n dc_Law_receipt_12 (by decide) rfl ?_
    refine pw_iconst (v := 1) dc_Law_receipt_13 (by decide) ?_
    exact pw_iret dc_Law_receipt_14 rfl rfl h
theorem dc_Law_askFor_0 : decode M_Law_askFor.2.1 0 = .ok (.aload_n 2, 1) := by decide +kernel
theorem dc_Law_askFor_1 : decode M_Law_askFor.2.1 1 = .ok (.iconst 0, 1) := by decide +kernel
theorem dc_Law_askFor_2 : decode M_Law_askFor.2.1 2 = .ok (.aload_n 0, 1) := by decide +kernel
theorem dc_Law_askFor_3 : decode M_Law_askFor.2.1 3 = .ok (.iload_n 1, 1) := by decide +kernel
theorem dc_Law_askFor_4 : decode M_Law_askFor.2.1 4 = .ok (.invokevirtual 19, 3) := by decide +kernel
theorem dc_Law_askFor_7 : decode M_Law_askFor.2.1 7 = .ok (.i2l, 1) := by decide +kernel
theorem dc_Law_askFor_8 : decode M_Law_askFor.2.1 8 = .ok (.lastore, 1) := by decide +kernel
theorem dc_Law_askFor_9 : decode M_Law_askFor.2.1 9 = .ok (.goto 6, 3) := by decide +kernel
theorem dc_Law_askFor_12 : decode M_Law_askFor.2.1 12 = .ok (.astore_n 3, 1) := by decide +kernel
theorem dc_Law_askFor_13 : decode M_Law_askFor.2.1 13 = .ok (.iconst 1, 1) := by decide +kernel
theorem dc_Law_askFor_14 : decode M_Law_askFor.2.1 14 = .ok (.ireturn, 1) := by decide +kernel
theorem dc_Law_askFor_15 : decode M_Law_askFor.2.1 15 = .ok (.iconst 0, 1) := by decide +kernel
theorem dc_Law_askFor_16 : decode M_Law_askFor.2.1 16 = .ok (.ireturn, 1) := by decide +kernel
set_option maxRecDepth 20000 in
theorem e_Law_askFor_0 {d : Nat} {σ : PH} {K : PO → PH → Prop} (x0 : Nat) (x1 : Int32) (x2 : Nat) (h : sh σ x0 = (1, 0) ∧ PW d M_Desk_askFor 0 [.ref x0, .int x1] [] σ (kHI (fun r1 σ1 => (∃ n1 : Nat, sh σ1 x2 = (5, n1) ∧ vp_in 0 n1 ∧ (∀ σ2 : PH, σ2 = uL σ1 x2 (ix 0) r1.toInt64 → K (.inl (some (.int 0))) σ2))) (fun σ1 => K (.inl (some (.int 1))) σ1) (fun _ => False))) : PW (d + 1) M_Law_askFor 0 [.ref x0, .int x1, .ref x2, uu] [] σ K := by
  refine pw_aload_n dc_Law_askFor_0 rfl rfl ?_
  refine pw_iconst (v := 0) dc_Law_askFor_1 (by decide) ?_
  refine pw_aload_n dc_Law_askFor_2 rfl rfl ?_
  refine pw_iload_n dc_Law_askFor_3 rfl ?_
  obtain ⟨hs1, h⟩ := h
  refine pw_callVC (hs := [12]) (vs := [.int x1]) (st := [.int 0, .ref x2]) (b := x0) (cn := 0) dc_Law_askFor_4 cq_Desk_askFor (List.mem_of_getElem? (i := 698) (by decide +kernel)) (List.mem_of_getElem? (i := 699) (by decide +kernel)) (List.mem_of_getElem? (i := 697) (by decide +kernel)) rfl hs1 ⟨0, 9, 12, 13, by decide, by decide, by decide, List.mem_of_getElem? (i := 396) (by decide +kernel), Or.inl ⟨rfl, rfl⟩⟩ rfl (by decide) (cat_cons rfl (cat_nil)) (Nat.le_of_ble_eq_true rfl) (PW.mono (kHI_kC1 (fun r1 σ1 h => ?_) (fun σ1 h a => ?_)) h)
  · refine pw_i2l dc_Law_askFor_7 ?_
    obtain ⟨n1, hs2, h⟩ := h
    obtain ⟨hi1, h⟩ := h
    have h := h _ rfl
    refine pw_last dc_Law_askFor_8 hs2 hi1 ?_
    refine pw_goto (tgt := 15) dc_Law_askFor_9 (by decide) ?_
    refine pw_iconst (v := 0) dc_Law_askFor_15 (by decide) ?_
    exact pw_iret dc_Law_askFor_16 rfl rfl h
  · refine pw_astore_n dc_Law_askFor_12 (by decide) rfl ?_
    refine pw_iconst (v := 1) dc_Law_askFor_13 (by decide) ?_
    exact pw_iret dc_Law_askFor_14 rfl rfl h
theorem dc_Law_route_0 : decode M_Law_route.2.1 0 = .ok (.aload_n 0, 1) := by decide +kernel
theorem dc_Law_route_1 : decode M_Law_route.2.1 1 = .ok (.iload_n 1, 1) := by decide +kernel
theorem dc_Law_route_2 : decode M_Law_route.2.1 2 = .ok (.iload_n 2, 1) := by decide +kernel
theorem dc_Law_route_3 : decode M_Law_route.2.1 3 = .ok (.iload_n 3, 1) := by decide +kernel
theorem dc_Law_route_4 : decode M_Law_route.2.1 4 = .ok (.invokevirtual 22, 3) := by decide +kernel
theorem dc_Law_route_7 : decode M_Law_route.2.1 7 = .ok (.goto 11, 3) := by decide +kernel
theorem dc_Law_route_10 : decode M_Law_route.2.1 10 = .ok (.astore 4, 2) := by decide +kernel
theorem dc_Law_route_12 : decode M_Law_route.2.1 12 = .ok (.iconst 1, 1) := by decide +kernel
theorem dc_Law_route_13 : decode M_Law_route.2.1 13 = .ok (.ireturn, 1) := by decide +kernel
theorem dc_Law_route_14 : decode M_Law_route.2.1 14 = .ok (.astore 4, 2) := by decide +kernel
theorem dc_Law_route_16 : decode M_Law_route.2.1 16 = .ok (.iconst 2, 1) := by decide +kernel
theorem dc_Law_route_17 : decode M_Law_route.2.1 17 = .ok (.ireturn, 1) := by decide +kernel
theorem dc_Law_route_18 : decode M_Law_route.2.1 18 = .ok (.iconst 0, 1) := by decide +kernel
theorem dc_Law_route_19 : decode M_Law_route.2.1 19 = .ok (.ireturn, 1) := by decide +kernel
set_option maxRecDepth 20000 in
theorem e_Law_route_0 {d : Nat} {σ : PH} {K : PO → PH → Prop} (x0 : Nat) (x1 : Int32) (x2 : Int32) (x3 : Int32) (h : sh σ x0 = (1, 0) ∧ PW d M_Desk_route 0 [.ref x0, .int x1, .int x2, .int x3, uu, uu] [] σ (kHV (fun σ1 => K (.inl (some (.int 0))) σ1) (fun σ1 => K (.inl (some (.int 1))) σ1) (fun σ1 => K (.inl (some (.int 2))) σ1))) : PW (d + 1) M_Law_route 0 [.ref x0, .int x1, .int x2, .int x3, uu] [] σ K := by
  refine pw_aload_n dc_Law_route_0 rfl rfl ?_
  refine pw_iload_n dc_Law_route_1 rfl ?_
  refine pw_iload_n dc_Law_route_2 rfl ?_
  refine pw_iload_n dc_Law_route_3 rfl ?_
  obtain ⟨hs1, h⟩ := h
  refine pw_callVC (hs := [10, 14]) (vs := [.int x1, .int x2, .int x3]) (st := []) (b := x0) (cn := 0) dc_Law_route_4 cq_Desk_route (List.mem_of_getElem? (i := 710) (by decide +kernel)) (List.mem_of_getElem? (i := 711) (by decide +kernel)) (List.mem_of_getElem? (i := 709) (by decide +kernel)) rfl hs1 ⟨0, 7, 10, 13, by decide, by decide, by decide, List.mem_of_getElem? (i := 396) (by decide +kernel), Or.inr ⟨14, 26, by decide, List.mem_of_getElem? (i := 708) (by decide +kernel), rfl, rfl⟩⟩ rfl (by decide) (cat_cons rfl (cat_cons rfl (cat_cons rfl (cat_nil)))) (Nat.le_of_ble_eq_true rfl) (PW.mono (kHV_kC2 (fun σ1 h => ?_) (fun σ1 h a => ?_) (fun σ1 h a => ?_)) h)
  · refine pw_goto (tgt := 18) dc_Law_route_7 (by decide) ?_
    refine pw_iconst (v := 0) dc_Law_route_18 (by decide) ?_
    exact pw_iret dc_Law_route_19 rfl rfl h
  · refine pw_astore dc_Law_route_10 (by decide) rfl ?_
    refine pw_iconst (v := 1) dc_Law_route_12 (by decide) ?_
    exact pw_iret dc_Law_route_13 rfl rfl h
  · refine pw_astore dc_Law_route_14 (by decide) rfl ?_
    refine pw_iconst (v := 2) dc_Law_route_16 (by decide) ?_
    exact pw_iret dc_Law_route_17 rfl rfl h
theorem dc_Law_group_0 : decode M_Law_group.2.1 0 = .ok (.aload_n 3, 1) := by decide +kernel
theorem dc_Law_group_1 : decode M_Law_group.2.1 1 = .ok (.iconst 0, 1) := by decide +kernel
theorem dc_Law_group_2 : decode M_Law_group.2.1 2 = .ok (.aload_n 0, 1) := by decide +kernel
theorem dc_Law_group_3 : decode M_Law_group.2.1 3 = .ok (.iload_n 1, 1) := by decide +kernel
theorem dc_Law_group_4 : decode M_Law_group.2.1 4 = .ok (.iload_n 2, 1) := by decide +kernel
theorem dc_Law_group_5 : decode M_Law_group.2.1 5 = .ok (.invokevirtual 28, 3) := by decide +kernel
theorem dc_Law_group_8 : decode M_Law_group.2.1 8 = .ok (.i2l, 1) := by decide +kernel
theorem dc_Law_group_9 : decode M_Law_group.2.1 9 = .ok (.lastore, 1) := by decide +kernel
theorem dc_Law_group_10 : decode M_Law_group.2.1 10 = .ok (.goto 11, 3) := by decide +kernel
theorem dc_Law_group_13 : decode M_Law_group.2.1 13 = .ok (.astore 4, 2) := by decide +kernel
theorem dc_Law_group_15 : decode M_Law_group.2.1 15 = .ok (.iconst 1, 1) := by decide +kernel
theorem dc_Law_group_16 : decode M_Law_group.2.1 16 = .ok (.ireturn, 1) := by decide +kernel
theorem dc_Law_group_17 : decode M_Law_group.2.1 17 = .ok (.astore 4, 2) := by decide +kernel
theorem dc_Law_group_19 : decode M_Law_group.2.1 19 = .ok (.iconst 2, 1) := by decide +kernel
theorem dc_Law_group_20 : decode M_Law_group.2.1 20 = .ok (.ireturn, 1) := by decide +kernel
theorem dc_Law_group_21 : decode M_Law_group.2.1 21 = .ok (.iconst 0, 1) := by decide +kernel
theorem dc_Law_group_22 : decode M_Law_group.2.1 22 = .ok (.ireturn, 1) := by decide +kernel
set_option maxRecDepth 20000 in
theorem e_Law_group_0 {d : Nat} {σ : PH} {K : PO → PH → Prop} (x0 : Nat) (x1 : Int32) (x2 : Int32) (x3 : Nat) (h : sh σ x0 = (1, 0) ∧ PW d M_Desk_group 0 [.ref x0, .int x1, .int x2, uu] [] σ (kHI (fun r1 σ1 => (∃ n1 : Nat, sh σ1 x3 = (5, n1) ∧ vp_in 0 n1 ∧ (∀ σ2 : PH, σ2 = uL σ1 x3 (ix 0) r1.toInt64 → K (.inl (some (.int 0))) σ2))) (fun σ1 => K (.inl (some (.int 1))) σ1) (fun σ1 => K (.inl (some (.int 2))) σ1))) : PW (d + 1) M_Law_group 0 [.ref x0, .int x1, .int x2, .ref x3, uu] [] σ K := by
  refine pw_aload_n dc_Law_group_0 rfl rfl ?_
  refine pw_iconst (v := 0) dc_Law_group_1 (by decide) ?_
  refine pw_aload_n dc_Law_group_2 rfl rfl ?_
  refine pw_iload_n dc_Law_group_3 rfl ?_
  refine pw_iload_n dc_Law_group_4 rfl ?_
  obtain ⟨hs1, h⟩ := h
  refine pw_callVC (hs := [13, 17]) (vs := [.int x1, .int x2]) (st := [.int 0, .ref x3]) (b := x0) (cn := 0) dc_Law_group_5 cq_Desk_group (List.mem_of_getElem? (i := 743) (by decide +kernel)) (List.mem_of_getElem? (i := 744) (by decide +kernel)) (List.mem_of_getElem? (i := 742) (by decide +kernel)) rfl hs1 ⟨0, 10, 13, 13, by decide, by decide, by decide, List.mem_of_getElem? (i := 396) (by decide +kernel), Or.inr ⟨17, 26, by decide, List.mem_of_getElem? (i := 708) (by decide +kernel), rfl, rfl⟩⟩ rfl (by decide) (cat_cons rfl (cat_cons rfl (cat_nil))) (Nat.le_of_ble_eq_true rfl) (PW.mono (kHI_kC2 (fun r1 σ1 h => ?_) (fun σ1 h a => ?_) (fun σ1 h a => ?_)) h)
  · refine pw_i2l dc_Law_group_8 ?_
    obtain ⟨n1, hs2, h⟩ := h
    obtain ⟨hi1, h⟩ := h
    have h := h _ rfl
    refine pw_last dc_Law_group_9 hs2 hi1 ?_
    refine pw_goto (tgt := 21) dc_Law_group_10 (by decide) ?_
    refine pw_iconst (v := 0) dc_Law_group_21 (by decide) ?_
    exact pw_iret dc_Law_group_22 rfl rfl h
  · refine pw_astore dc_Law_group_13 (by decide) rfl ?_
    refine pw_iconst (v := 1) dc_Law_group_15 (by decide) ?_
    exact pw_iret dc_Law_group_16 rfl rfl h
  · refine pw_astore dc_Law_group_17 (by decide) rfl ?_
    refine pw_iconst (v := 2) dc_Law_group_19 (by decide) ?_
    exact pw_iret dc_Law_group_20 rfl rfl h
theorem dc_Law_open_0 : decode M_Law_open.2.1 0 = .ok (.aload_n 3, 1) := by decide +kernel
theorem dc_Law_open_1 : decode M_Law_open.2.1 1 = .ok (.iconst 0, 1) := by decide +kernel
theorem dc_Law_open_2 : decode M_Law_open.2.1 2 = .ok (.aload_n 0, 1) := by decide +kernel
theorem dc_Law_open_3 : decode M_Law_open.2.1 3 = .ok (.iload_n 1, 1) := by decide +kernel
theorem dc_Law_open_4 : decode M_Law_open.2.1 4 = .ok (.iload_n 2, 1) := by decide +kernel
theorem dc_Law_open_5 : decode M_Law_open.2.1 5 = .ok (.invokevirtual 31, 3) := by decide +kernel
theorem dc_Law_open_8 : decode M_Law_open.2.1 8 = .ok (.ifCond .eq 7, 3) := by decide +kernel
theorem dc_Law_open_11 : decode M_Law_open.2.1 11 = .ok (.lconst 1, 1) := by decide +kernel
theorem dc_Law_open_12 : decode M_Law_open.2.1 12 = .ok (.goto 4, 3) := by decide +kernel
theorem dc_Law_open_15 : decode M_Law_open.2.1 15 = .ok (.lconst 0, 1) := by decide +kernel
theorem dc_Law_open_16 : decode M_Law_open.2.1 16 = .ok (.lastore, 1) := by decide +kernel
theorem dc_Law_open_17 : decode M_Law_open.2.1 17 = .ok (.goto 7, 3) := by decide +kernel
theorem dc_Law_open_20 : decode M_Law_open.2.1 20 = .ok (.astore 4, 2) := by decide +kernel
theorem dc_Law_open_22 : decode M_Law_open.2.1 22 = .ok (.iconst 1, 1) := by decide +kernel
theorem dc_Law_open_23 : decode M_Law_open.2.1 23 = .ok (.ireturn, 1) := by decide +kernel
theorem dc_Law_open_24 : decode M_Law_open.2.1 24 = .ok (.iconst 0, 1) := by decide +kernel
theorem dc_Law_open_25 : decode M_Law_open.2.1 25 = .ok (.ireturn, 1) := by decide +kernel
set_option maxRecDepth 20000 in
theorem e_Law_open_0 {d : Nat} {σ : PH} {K : PO → PH → Prop} (x0 : Nat) (x1 : Int32) (x2 : Int32) (x3 : Nat) (h : sh σ x0 = (1, 0) ∧ PW d M_Desk_open 0 [.ref x0, .int x1, .int x2, uu, uu] [] σ (kHI (fun r1 σ1 => (if r1 = 0 then (∃ n1 : Nat, sh σ1 x3 = (5, n1) ∧ vp_in 0 n1 ∧ (∀ σ2 : PH, σ2 = uL σ1 x3 (ix 0) 0 → K (.inl (some (.int 0))) σ2)) else (∃ n2 : Nat, sh σ1 x3 = (5, n2) ∧ vp_in 0 n2 ∧ (∀ σ3 : PH, σ3 = uL σ1 x3 (ix 0) 1 → K (.inl (some (.int 0))) σ3)))) (fun σ1 => K (.inl (some (.int 1))) σ1) (fun _ => False))) : PW (d + 1) M_Law_open 0 [.ref x0, .int x1, .int x2, .ref x3, uu] [] σ K := by
  refine pw_aload_n dc_Law_open_0 rfl rfl ?_
  refine pw_iconst (v := 0) dc_Law_open_1 (by decide) ?_
  refine pw_aload_n dc_Law_open_2 rfl rfl ?_
  refine pw_iload_n dc_Law_open_3 rfl ?_
  refine pw_iload_n dc_Law_open_4 rfl ?_
  obtain ⟨hs1, h⟩ := h
  refine pw_callVC (hs := [20]) (vs := [.int x1, .int x2]) (st := [.int 0, .ref x3]) (b := x0) (cn := 0) dc_Law_open_5 cq_Desk_open (List.mem_of_getElem? (i := 763) (by decide +kernel)) (List.mem_of_getElem? (i := 764) (by decide +kernel)) (List.mem_of_getElem? (i := 762) (by decide +kernel)) rfl hs1 ⟨0, 17, 20, 13, by decide, by decide, by decide, List.mem_of_getElem? (i := 396) (by decide +kernel), Or.inl ⟨rfl, rfl⟩⟩ rfl (by decide) (cat_cons rfl (cat_cons rfl (cat_nil))) (Nat.le_of_ble_eq_true rfl) (PW.mono (kHI_kC1 (fun r1 σ1 h => ?_) (fun σ1 h a => ?_)) h)
  · refine pw_if_eq (tgt := 15) dc_Law_open_8 (by decide) (fun hc => ?_) (fun hc => ?_)
    · have h := ite_t h hc
      refine pw_lconst (v := 0) dc_Law_open_15 (by decide) ?_
      obtain ⟨n1, hs2, h⟩ := h
      obtain ⟨hi1, h⟩ := h
      have h := h _ rfl
      refine pw_last dc_Law_open_16 hs2 hi1 ?_
      refine pw_goto (tgt := 24) dc_Law_open_17 (by decide) ?_
      refine pw_iconst (v := 0) dc_Law_open_24 (by decide) ?_
      exact pw_iret dc_Law_open_25 rfl rfl h
    · have h := ite_f h hc
      refine pw_lconst (v := 1) dc_Law_open_11 (by decide) ?_
      refine pw_goto (tgt := 16) dc_Law_open_12 (by decide) ?_
      obtain ⟨n2, hs3, h⟩ := h
      obtain ⟨hi2, h⟩ := h
      have h := h _ rfl
      refine pw_last dc_Law_open_16 hs3 hi2 ?_
      refine pw_goto (tgt := 24) dc_Law_open_17 (by decide) ?_
      refine pw_iconst (v := 0) dc_Law_open_24 (by decide) ?_
      exact pw_iret dc_Law_open_25 rfl rfl h
  · refine pw_astore dc_Law_open_20 (by decide) rfl ?_
    refine pw_iconst (v := 1) dc_Law_open_22 (by decide) ?_
    exact pw_iret dc_Law_open_23 rfl rfl h
theorem dc_Law_send_0 : decode M_Law_send.2.1 0 = .ok (.aload_n 2, 1) := by decide +kernel
theorem dc_Law_send_1 : decode M_Law_send.2.1 1 = .ok (.iconst 0, 1) := by decide +kernel
theorem dc_Law_send_2 : decode M_Law_send.2.1 2 = .ok (.aload_n 0, 1) := by decide +kernel
theorem dc_Law_send_3 : decode M_Law_send.2.1 3 = .ok (.iload_n 1, 1) := by decide +kernel
theorem dc_Law_send_4 : decode M_Law_send.2.1 4 = .ok (.invokevirtual 35, 3) := by decide +kernel
theorem dc_Law_send_7 : decode M_Law_send.2.1 7 = .ok (.i2l, 1) := by decide +kernel
theorem dc_Law_send_8 : decode M_Law_send.2.1 8 = .ok (.lastore, 1) := by decide +kernel
theorem dc_Law_send_9 : decode M_Law_send.2.1 9 = .ok (.goto 6, 3) := by decide +kernel
theorem dc_Law_send_12 : decode M_Law_send.2.1 12 = .ok (.astore_n 3, 1) := by decide +kernel
theorem dc_Law_send_13 : decode M_Law_send.2.1 13 = .ok (.iconst 1, 1) := by decide +kernel
theorem dc_Law_send_14 : decode M_Law_send.2.1 14 = .ok (.ireturn, 1) := by decide +kernel
theorem dc_Law_send_15 : decode M_Law_send.2.1 15 = .ok (.iconst 0, 1) := by decide +kernel
theorem dc_Law_send_16 : decode M_Law_send.2.1 16 = .ok (.ireturn, 1) := by decide +kernel
set_option maxRecDepth 20000 in
theorem e_Law_send_0 {d : Nat} {σ : PH} {K : PO → PH → Prop} (x0 : Nat) (x1 : Int32) (x2 : Nat) (h : sh σ x0 = (1, 0) ∧ PW d M_Desk_send 0 [.ref x0, .int x1, uu] [] σ (kHI (fun r1 σ1 => (∃ n1 : Nat, sh σ1 x2 = (5, n1) ∧ vp_in 0 n1 ∧ (∀ σ2 : PH, σ2 = uL σ1 x2 (ix 0) r1.toInt64 → K (.inl (some (.int 0))) σ2))) (fun σ1 => K (.inl (some (.int 1))) σ1) (fun _ => False))) : PW (d + 1) M_Law_send 0 [.ref x0, .int x1, .ref x2, uu] [] σ K := by
  refine pw_aload_n dc_Law_send_0 rfl rfl ?_
  refine pw_iconst (v := 0) dc_Law_send_1 (by decide) ?_
  refine pw_aload_n dc_Law_send_2 rfl rfl ?_
  refine pw_iload_n dc_Law_send_3 rfl ?_
  obtain ⟨hs1, h⟩ := h
  refine pw_callVC (hs := [12]) (vs := [.int x1]) (st := [.int 0, .ref x2]) (b := x0) (cn := 0) dc_Law_send_4 cq_Desk_send (List.mem_of_getElem? (i := 774) (by decide +kernel)) (List.mem_of_getElem? (i := 775) (by decide +kernel)) (List.mem_of_getElem? (i := 773) (by decide +kernel)) rfl hs1 ⟨0, 9, 12, 13, by decide, by decide, by decide, List.mem_of_getElem? (i := 396) (by decide +kernel), Or.inl ⟨rfl, rfl⟩⟩ rfl (by decide) (cat_cons rfl (cat_nil)) (Nat.le_of_ble_eq_true rfl) (PW.mono (kHI_kC1 (fun r1 σ1 h => ?_) (fun σ1 h a => ?_)) h)
  · refine pw_i2l dc_Law_send_7 ?_
    obtain ⟨n1, hs2, h⟩ := h
    obtain ⟨hi1, h⟩ := h
    have h := h _ rfl
    refine pw_last dc_Law_send_8 hs2 hi1 ?_
    refine pw_goto (tgt := 15) dc_Law_send_9 (by decide) ?_
    refine pw_iconst (v := 0) dc_Law_send_15 (by decide) ?_
    exact pw_iret dc_Law_send_16 rfl rfl h
  · refine pw_astore_n dc_Law_send_12 (by decide) rfl ?_
    refine pw_iconst (v := 1) dc_Law_send_13 (by decide) ?_
    exact pw_iret dc_Law_send_14 rfl rfl h
theorem dc_Law_rerun_0 : decode M_Law_rerun.2.1 0 = .ok (.aload_n 3, 1) := by decide +kernel
theorem dc_Law_rerun_1 : decode M_Law_rerun.2.1 1 = .ok (.iconst 0, 1) := by decide +kernel
theorem dc_Law_rerun_2 : decode M_Law_rerun.2.1 2 = .ok (.aload_n 0, 1) := by decide +kernel
theorem dc_Law_rerun_3 : decode M_Law_rerun.2.1 3 = .ok (.iload_n 1, 1) := by decide +kernel
theorem dc_Law_rerun_4 : decode M_Law_rerun.2.1 4 = .ok (.iload_n 2, 1) := by decide +kernel
theorem dc_Law_rerun_5 : decode M_Law_rerun.2.1 5 = .ok (.invokevirtual 38, 3) := by decide +kernel
theorem dc_Law_rerun_8 : decode M_Law_rerun.2.1 8 = .ok (.ifCond .eq 7, 3) := by decide +kernel
theorem dc_Law_rerun_11 : decode M_Law_rerun.2.1 11 = .ok (.lconst 1, 1) := by decide +kernel
theorem dc_Law_rerun_12 : decode M_Law_rerun.2.1 12 = .ok (.goto 4, 3) := by decide +kernel
theorem dc_Law_rerun_15 : decode M_Law_rerun.2.1 15 = .ok (.lconst 0, 1) := by decide +kernel
theorem dc_Law_rerun_16 : decode M_Law_rerun.2.1 16 = .ok (.lastore, 1) := by decide +kernel
theorem dc_Law_rerun_17 : decode M_Law_rerun.2.1 17 = .ok (.goto 11, 3) := by decide +kernel
theorem dc_Law_rerun_20 : decode M_Law_rerun.2.1 20 = .ok (.astore 4, 2) := by decide +kernel
theorem dc_Law_rerun_22 : decode M_Law_rerun.2.1 22 = .ok (.iconst 1, 1) := by decide +kernel
theorem dc_Law_rerun_23 : decode M_Law_rerun.2.1 23 = .ok (.ireturn, 1) := by decide +kernel
theorem dc_Law_rerun_24 : decode M_Law_rerun.2.1 24 = .ok (.astore 4, 2) := by decide +kernel
theorem dc_Law_rerun_26 : decode M_Law_rerun.2.1 26 = .ok (.iconst 2, 1) := by decide +kernel
theorem dc_Law_rerun_27 : decode M_Law_rerun.2.1 27 = .ok (.ireturn, 1) := by decide +kernel
theorem dc_Law_rerun_28 : decode M_Law_rerun.2.1 28 = .ok (.iconst 0, 1) := by decide +kernel
theorem dc_Law_rerun_29 : decode M_Law_rerun.2.1 29 = .ok (.ireturn, 1) := by decide +kernel
set_option maxRecDepth 20000 in
theorem e_Law_rerun_0 {d : Nat} {σ : PH} {K : PO → PH → Prop} (x0 : Nat) (x1 : Int32) (x2 : Int32) (x3 : Nat) (h : sh σ x0 = (1, 0) ∧ PW d M_Desk_rerun 0 [.ref x0, .int x1, .int x2, uu] [] σ (kHI (fun r1 σ1 => (if r1 = 0 then (∃ n1 : Nat, sh σ1 x3 = (5, n1) ∧ vp_in 0 n1 ∧ (∀ σ2 : PH, σ2 = uL σ1 x3 (ix 0) 0 → K (.inl (some (.int 0))) σ2)) else (∃ n2 : Nat, sh σ1 x3 = (5, n2) ∧ vp_in 0 n2 ∧ (∀ σ3 : PH, σ3 = uL σ1 x3 (ix 0) 1 → K (.inl (some (.int 0))) σ3)))) (fun σ1 => K (.inl (some (.int 1))) σ1) (fun σ1 => K (.inl (some (.int 2))) σ1))) : PW (d + 1) M_Law_rerun 0 [.ref x0, .int x1, .int x2, .ref x3, uu] [] σ K := by
  refine pw_aload_n dc_Law_rerun_0 rfl rfl ?_
  refine pw_iconst (v := 0) dc_Law_rerun_1 (by decide) ?_
  refine pw_aload_n dc_Law_rerun_2 rfl rfl ?_
  refine pw_iload_n dc_Law_rerun_3 rfl ?_
  refine pw_iload_n dc_Law_rerun_4 rfl ?_
  obtain ⟨hs1, h⟩ := h
  refine pw_callVC (hs := [20, 24]) (vs := [.int x1, .int x2]) (st := [.int 0, .ref x3]) (b := x0) (cn := 0) dc_Law_rerun_5 cq_Desk_rerun (List.mem_of_getElem? (i := 897) (by decide +kernel)) (List.mem_of_getElem? (i := 898) (by decide +kernel)) (List.mem_of_getElem? (i := 896) (by decide +kernel)) rfl hs1 ⟨0, 17, 20, 13, by decide, by decide, by decide, List.mem_of_getElem? (i := 396) (by decide +kernel), Or.inr ⟨24, 26, by decide, List.mem_of_getElem? (i := 708) (by decide +kernel), rfl, rfl⟩⟩ rfl (by decide) (cat_cons rfl (cat_cons rfl (cat_nil))) (Nat.le_of_ble_eq_true rfl) (PW.mono (kHI_kC2 (fun r1 σ1 h => ?_) (fun σ1 h a => ?_) (fun σ1 h a => ?_)) h)
  · refine pw_if_eq (tgt := 15) dc_Law_rerun_8 (by decide) (fun hc => ?_) (fun hc => ?_)
    · have h := ite_t h hc
      refine pw_lconst (v := 0) dc_Law_rerun_15 (by decide) ?_
      obtain ⟨n1, hs2, h⟩ := h
      obtain ⟨hi1, h⟩ := h
      have h := h _ rfl
      refine pw_last dc_Law_rerun_16 hs2 hi1 ?_
      refine pw_goto (tgt := 28) dc_Law_rerun_17 (by decide) ?_
      refine pw_iconst (v := 0) dc_Law_rerun_28 (by decide) ?_
      exact pw_iret dc_Law_rerun_29 rfl rfl h
    · have h := ite_f h hc
      refine pw_lconst (v := 1) dc_Law_rerun_11 (by decide) ?_
      refine pw_goto (tgt := 16) dc_Law_rerun_12 (by decide) ?_
      obtain ⟨n2, hs3, h⟩ := h
      obtain ⟨hi2, h⟩ := h
      have h := h _ rfl
      refine pw_last dc_Law_rerun_16 hs3 hi2 ?_
      refine pw_goto (tgt := 28) dc_Law_rerun_17 (by decide) ?_
      refine pw_iconst (v := 0) dc_Law_rerun_28 (by decide) ?_
      exact pw_iret dc_Law_rerun_29 rfl rfl h
  · refine pw_astore dc_Law_rerun_20 (by decide) rfl ?_
    refine pw_iconst (v := 1) dc_Law_rerun_22 (by decide) ?_
    exact pw_iret dc_Law_rerun_23 rfl rfl h
  · refine pw_astore dc_Law_rerun_24 (by decide) rfl ?_
    refine pw_iconst (v := 2) dc_Law_rerun_26 (by decide) ?_
    exact pw_iret dc_Law_rerun_27 rfl rfl h
theorem dc_Law_queued_0 : decode M_Law_queued.2.1 0 = .ok (.aload_n 3, 1) := by decide +kernel
theorem dc_Law_queued_1 : decode M_Law_queued.2.1 1 = .ok (.iconst 0, 1) := by decide +kernel
theorem dc_Law_queued_2 : decode M_Law_queued.2.1 2 = .ok (.aload_n 0, 1) := by decide +kernel
theorem dc_Law_queued_3 : decode M_Law_queued.2.1 3 = .ok (.iload_n 1, 1) := by decide +kernel
theorem dc_Law_queued_4 : decode M_Law_queued.2.1 4 = .ok (.iload_n 2, 1) := by decide +kernel
theorem dc_Law_queued_5 : decode M_Law_queued.2.1 5 = .ok (.invokevirtual 42, 3) := by decide +kernel
theorem dc_Law_queued_8 : decode M_Law_queued.2.1 8 = .ok (.i2l, 1) := by decide +kernel
theorem dc_Law_queued_9 : decode M_Law_queued.2.1 9 = .ok (.lastore, 1) := by decide +kernel
theorem dc_Law_queued_10 : decode M_Law_queued.2.1 10 = .ok (.goto 7, 3) := by decide +kernel
theorem dc_Law_queued_13 : decode M_Law_queued.2.1 13 = .ok (.astore 4, 2) := by decide +kernel
theorem dc_Law_queued_15 : decode M_Law_queued.2.1 15 = .ok (.iconst 1, 1) := by decide +kernel
theorem dc_Law_queued_16 : decode M_Law_queued.2.1 16 = .ok (.ireturn, 1) := by decide +kernel
theorem dc_Law_queued_17 : decode M_Law_queued.2.1 17 = .ok (.iconst 0, 1) := by decide +kernel
theorem dc_Law_queued_18 : decode M_Law_queued.2.1 18 = .ok (.ireturn, 1) := by decide +kernel
set_option maxRecDepth 20000 in
theorem e_Law_queued_0 {d : Nat} {σ : PH} {K : PO → PH → Prop} (x0 : Nat) (x1 : Int32) (x2 : Int32) (x3 : Nat) (h : sh σ x0 = (1, 0) ∧ PW d M_Desk_queued 0 [.ref x0, .int x1, .int x2, uu, uu] [] σ (kHI (fun r1 σ1 => (∃ n1 : Nat, sh σ1 x3 = (5, n1) ∧ vp_in 0 n1 ∧ (∀ σ2 : PH, σ2 = uL σ1 x3 (ix 0) r1.toInt64 → K (.inl (some (.int 0))) σ2))) (fun σ1 => K (.inl (some (.int 1))) σ1) (fun _ => False))) : PW (d + 1) M_Law_queued 0 [.ref x0, .int x1, .int x2, .ref x3, uu] [] σ K := by
  refine pw_aload_n dc_Law_queued_0 rfl rfl ?_
  refine pw_iconst (v := 0) dc_Law_queued_1 (by decide) ?_
  refine pw_aload_n dc_Law_queued_2 rfl rfl ?_
  refine pw_iload_n dc_Law_queued_3 rfl ?_
  refine pw_iload_n dc_Law_queued_4 rfl ?_
  obtain ⟨hs1, h⟩ := h
  refine pw_callVC (hs := [13]) (vs := [.int x1, .int x2]) (st := [.int 0, .ref x3]) (b := x0) (cn := 0) dc_Law_queued_5 cq_Desk_queued (List.mem_of_getElem? (i := 908) (by decide +kernel)) (List.mem_of_getElem? (i := 909) (by decide +kernel)) (List.mem_of_getElem? (i := 907) (by decide +kernel)) rfl hs1 ⟨0, 10, 13, 13, by decide, by decide, by decide, List.mem_of_getElem? (i := 396) (by decide +kernel), Or.inl ⟨rfl, rfl⟩⟩ rfl (by decide) (cat_cons rfl (cat_cons rfl (cat_nil))) (Nat.le_of_ble_eq_true rfl) (PW.mono (kHI_kC1 (fun r1 σ1 h => ?_) (fun σ1 h a => ?_)) h)
  · refine pw_i2l dc_Law_queued_8 ?_
    obtain ⟨n1, hs2, h⟩ := h
    obtain ⟨hi1, h⟩ := h
    have h := h _ rfl
    refine pw_last dc_Law_queued_9 hs2 hi1 ?_
    refine pw_goto (tgt := 17) dc_Law_queued_10 (by decide) ?_
    refine pw_iconst (v := 0) dc_Law_queued_17 (by decide) ?_
    exact pw_iret dc_Law_queued_18 rfl rfl h
  · refine pw_astore dc_Law_queued_13 (by decide) rfl ?_
    refine pw_iconst (v := 1) dc_Law_queued_15 (by decide) ?_
    exact pw_iret dc_Law_queued_16 rfl rfl h
theorem dc_Law_trace_0 : decode M_Law_trace.2.1 0 = .ok (.aload_n 3, 1) := by decide +kernel
theorem dc_Law_trace_1 : decode M_Law_trace.2.1 1 = .ok (.iconst 0, 1) := by decide +kernel
theorem dc_Law_trace_2 : decode M_Law_trace.2.1 2 = .ok (.aload_n 0, 1) := by decide +kernel
theorem dc_Law_trace_3 : decode M_Law_trace.2.1 3 = .ok (.iload_n 1, 1) := by decide +kernel
theorem dc_Law_trace_4 : decode M_Law_trace.2.1 4 = .ok (.iload_n 2, 1) := by decide +kernel
theorem dc_Law_trace_5 : decode M_Law_trace.2.1 5 = .ok (.invokevirtual 45, 3) := by decide +kernel
theorem dc_Law_trace_8 : decode M_Law_trace.2.1 8 = .ok (.i2l, 1) := by decide +kernel
theorem dc_Law_trace_9 : decode M_Law_trace.2.1 9 = .ok (.lastore, 1) := by decide +kernel
theorem dc_Law_trace_10 : decode M_Law_trace.2.1 10 = .ok (.goto 7, 3) := by decide +kernel
theorem dc_Law_trace_13 : decode M_Law_trace.2.1 13 = .ok (.astore 4, 2) := by decide +kernel
theorem dc_Law_trace_15 : decode M_Law_trace.2.1 15 = .ok (.iconst 1, 1) := by decide +kernel
theorem dc_Law_trace_16 : decode M_Law_trace.2.1 16 = .ok (.ireturn, 1) := by decide +kernel
theorem dc_Law_trace_17 : decode M_Law_trace.2.1 17 = .ok (.iconst 0, 1) := by decide +kernel
theorem dc_Law_trace_18 : decode M_Law_trace.2.1 18 = .ok (.ireturn, 1) := by decide +kernel
set_option maxRecDepth 20000 in
theorem e_Law_trace_0 {d : Nat} {σ : PH} {K : PO → PH → Prop} (x0 : Nat) (x1 : Int32) (x2 : Int32) (x3 : Nat) (h : sh σ x0 = (1, 0) ∧ PW d M_Desk_trace 0 [.ref x0, .int x1, .int x2, uu] [] σ (kHI (fun r1 σ1 => (∃ n1 : Nat, sh σ1 x3 = (5, n1) ∧ vp_in 0 n1 ∧ (∀ σ2 : PH, σ2 = uL σ1 x3 (ix 0) r1.toInt64 → K (.inl (some (.int 0))) σ2))) (fun σ1 => K (.inl (some (.int 1))) σ1) (fun _ => False))) : PW (d + 1) M_Law_trace 0 [.ref x0, .int x1, .int x2, .ref x3, uu] [] σ K := by
  refine pw_aload_n dc_Law_trace_0 rfl rfl ?_
  refine pw_iconst (v := 0) dc_Law_trace_1 (by decide) ?_
  refine pw_aload_n dc_Law_trace_2 rfl rfl ?_
  refine pw_iload_n dc_Law_trace_3 rfl ?_
  refine pw_iload_n dc_Law_trace_4 rfl ?_
  obtain ⟨hs1, h⟩ := h
  refine pw_callVC (hs := [13]) (vs := [.int x1, .int x2]) (st := [.int 0, .ref x3]) (b := x0) (cn := 0) dc_Law_trace_5 cq_Desk_trace (List.mem_of_getElem? (i := 915) (by decide +kernel)) (List.mem_of_getElem? (i := 916) (by decide +kernel)) (List.mem_of_getElem? (i := 914) (by decide +kernel)) rfl hs1 ⟨0, 10, 13, 13, by decide, by decide, by decide, List.mem_of_getElem? (i := 396) (by decide +kernel), Or.inl ⟨rfl, rfl⟩⟩ rfl (by decide) (cat_cons rfl (cat_cons rfl (cat_nil))) (Nat.le_of_ble_eq_true rfl) (PW.mono (kHI_kC1 (fun r1 σ1 h => ?_) (fun σ1 h a => ?_)) h)
  · refine pw_i2l dc_Law_trace_8 ?_
    obtain ⟨n1, hs2, h⟩ := h
    obtain ⟨hi1, h⟩ := h
    have h := h _ rfl
    refine pw_last dc_Law_trace_9 hs2 hi1 ?_
    refine pw_goto (tgt := 17) dc_Law_trace_10 (by decide) ?_
    refine pw_iconst (v := 0) dc_Law_trace_17 (by decide) ?_
    exact pw_iret dc_Law_trace_18 rfl rfl h
  · refine pw_astore dc_Law_trace_13 (by decide) rfl ?_
    refine pw_iconst (v := 1) dc_Law_trace_15 (by decide) ?_
    exact pw_iret dc_Law_trace_16 rfl rfl h
theorem dc_Law_reason_0 : decode M_Law_reason.2.1 0 = .ok (.aload_n 2, 1) := by decide +kernel
theorem dc_Law_reason_1 : decode M_Law_reason.2.1 1 = .ok (.iconst 0, 1) := by decide +kernel
theorem dc_Law_reason_2 : decode M_Law_reason.2.1 2 = .ok (.aload_n 0, 1) := by decide +kernel
theorem dc_Law_reason_3 : decode M_Law_reason.2.1 3 = .ok (.iload_n 1, 1) := by decide +kernel
theorem dc_Law_reason_4 : decode M_Law_reason.2.1 4 = .ok (.invokevirtual 48, 3) := by decide +kernel
theorem dc_Law_reason_7 : decode M_Law_reason.2.1 7 = .ok (.i2l, 1) := by decide +kernel
theorem dc_Law_reason_8 : decode M_Law_reason.2.1 8 = .ok (.lastore, 1) := by decide +kernel
theorem dc_Law_reason_9 : decode M_Law_reason.2.1 9 = .ok (.goto 6, 3) := by decide +kernel
theorem dc_Law_reason_12 : decode M_Law_reason.2.1 12 = .ok (.astore_n 3, 1) := by decide +kernel
theorem dc_Law_reason_13 : decode M_Law_reason.2.1 13 = .ok (.iconst 1, 1) := by decide +kernel
theorem dc_Law_reason_14 : decode M_Law_reason.2.1 14 = .ok (.ireturn, 1) := by decide +kernel
theorem dc_Law_reason_15 : decode M_Law_reason.2.1 15 = .ok (.iconst 0, 1) := by decide +kernel
theorem dc_Law_reason_16 : decode M_Law_reason.2.1 16 = .ok (.ireturn, 1) := by decide +kernel
set_option maxRecDepth 20000 in
theorem e_Law_reason_0 {d : Nat} {σ : PH} {K : PO → PH → Prop} (x0 : Nat) (x1 : Int32) (x2 : Nat) (h : sh σ x0 = (1, 0) ∧ PW d M_Desk_reason 0 [.ref x0, .int x1] [] σ (kHI (fun r1 σ1 => (∃ n1 : Nat, sh σ1 x2 = (5, n1) ∧ vp_in 0 n1 ∧ (∀ σ2 : PH, σ2 = uL σ1 x2 (ix 0) r1.toInt64 → K (.inl (some (.int 0))) σ2))) (fun σ1 => K (.inl (some (.int 1))) σ1) (fun _ => False))) : PW (d + 1) M_Law_reason 0 [.ref x0, .int x1, .ref x2, uu] [] σ K := by
  refine pw_aload_n dc_Law_reason_0 rfl rfl ?_
  refine pw_iconst (v := 0) dc_Law_reason_1 (by decide) ?_
  refine pw_aload_n dc_Law_reason_2 rfl rfl ?_
  refine pw_iload_n dc_Law_reason_3 rfl ?_
  obtain ⟨hs1, h⟩ := h
  refine pw_callVC (hs := [12]) (vs := [.int x1]) (st := [.int 0, .ref x2]) (b := x0) (cn := 0) dc_Law_reason_4 cq_Desk_reason (List.mem_of_getElem? (i := 922) (by decide +kernel)) (List.mem_of_getElem? (i := 923) (by decide +kernel)) (List.mem_of_getElem? (i := 921) (by decide +kernel)) rfl hs1 ⟨0, 9, 12, 13, by decide, by decide, by decide, List.mem_of_getElem? (i := 396) (by decide +kernel), Or.inl ⟨rfl, rfl⟩⟩ rfl (by decide) (cat_cons rfl (cat_nil)) (Nat.le_of_ble_eq_true rfl) (PW.mono (kHI_kC1 (fun r1 σ1 h => ?_) (fun σ1 h a => ?_)) h)
  · refine pw_i2l dc_Law_reason_7 ?_
    obtain ⟨n1, hs2, h⟩ := h
    obtain ⟨hi1, h⟩ := h
    have h := h _ rfl
    refine pw_last dc_Law_reason_8 hs2 hi1 ?_
    refine pw_goto (tgt := 15) dc_Law_reason_9 (by decide) ?_
    refine pw_iconst (v := 0) dc_Law_reason_15 (by decide) ?_
    exact pw_iret dc_Law_reason_16 rfl rfl h
  · refine pw_astore_n dc_Law_reason_12 (by decide) rfl ?_
    refine pw_iconst (v := 1) dc_Law_reason_13 (by decide) ?_
    exact pw_iret dc_Law_reason_14 rfl rfl h
theorem dc_Law_clerk_0 : decode M_Law_clerk.2.1 0 = .ok (.aload_n 0, 1) := by decide +kernel
theorem dc_Law_clerk_1 : decode M_Law_clerk.2.1 1 = .ok (.iload_n 1, 1) := by decide +kernel
theorem dc_Law_clerk_2 : decode M_Law_clerk.2.1 2 = .ok (.iload_n 2, 1) := by decide +kernel
theorem dc_Law_clerk_3 : decode M_Law_clerk.2.1 3 = .ok (.invokevirtual 51, 3) := by decide +kernel
theorem dc_Law_clerk_6 : decode M_Law_clerk.2.1 6 = .ok (.goto 9, 3) := by decide +kernel
theorem dc_Law_clerk_9 : decode M_Law_clerk.2.1 9 = .ok (.astore_n 3, 1) := by decide +kernel
theorem dc_Law_clerk_10 : decode M_Law_clerk.2.1 10 = .ok (.iconst 1, 1) := by decide +kernel
theorem dc_Law_clerk_11 : decode M_Law_clerk.2.1 11 = .ok (.ireturn, 1) := by decide +kernel
theorem dc_Law_clerk_12 : decode M_Law_clerk.2.1 12 = .ok (.astore_n 3, 1) := by decide +kernel
theorem dc_Law_clerk_13 : decode M_Law_clerk.2.1 13 = .ok (.iconst 2, 1) := by decide +kernel
theorem dc_Law_clerk_14 : decode M_Law_clerk.2.1 14 = .ok (.ireturn, 1) := by decide +kernel
theorem dc_Law_clerk_15 : decode M_Law_clerk.2.1 15 = .ok (.iconst 0, 1) := by decide +kernel
theorem dc_Law_clerk_16 : decode M_Law_clerk.2.1 16 = .ok (.ireturn, 1) := by decide +kernel
set_option maxRecDepth 20000 in
theorem e_Law_clerk_0 {d : Nat} {σ : PH} {K : PO → PH → Prop} (x0 : Nat) (x1 : Int32) (x2 : Int32) (h : sh σ x0 = (1, 0) ∧ PW d M_Desk_clerk 0 [.ref x0, .int x1, .int x2, uu] [] σ (kHV (fun σ1 => K (.inl (some (.int 0))) σ1) (fun σ1 => K (.inl (some (.int 1))) σ1) (fun σ1 => K (.inl (some (.int 2))) σ1))) : PW (d + 1) M_Law_clerk 0 [.ref x0, .int x1, .int x2, uu] [] σ K := by
  refine pw_aload_n dc_Law_clerk_0 rfl rfl ?_
  refine pw_iload_n dc_Law_clerk_1 rfl ?_
  refine pw_iload_n dc_Law_clerk_2 rfl ?_
  obtain ⟨hs1, h⟩ := h
  refine pw_callVC (hs := [9, 12]) (vs := [.int x1, .int x2]) (st := []) (b := x0) (cn := 0) dc_Law_clerk_3 cq_Desk_clerk (List.mem_of_getElem? (i := 929) (by decide +kernel)) (List.mem_of_getElem? (i := 930) (by decide +kernel)) (List.mem_of_getElem? (i := 928) (by decide +kernel)) rfl hs1 ⟨0, 6, 9, 13, by decide, by decide, by decide, List.mem_of_getElem? (i := 396) (by decide +kernel), Or.inr ⟨12, 26, by decide, List.mem_of_getElem? (i := 708) (by decide +kernel), rfl, rfl⟩⟩ rfl (by decide) (cat_cons rfl (cat_cons rfl (cat_nil))) (Nat.le_of_ble_eq_true rfl) (PW.mono (kHV_kC2 (fun σ1 h => ?_) (fun σ1 h a => ?_) (fun σ1 h a => ?_)) h)
  · refine pw_goto (tgt := 15) dc_Law_clerk_6 (by decide) ?_
    refine pw_iconst (v := 0) dc_Law_clerk_15 (by decide) ?_
    exact pw_iret dc_Law_clerk_16 rfl rfl h
  · refine pw_astore_n dc_Law_clerk_9 (by decide) rfl ?_
    refine pw_iconst (v := 1) dc_Law_clerk_10 (by decide) ?_
    exact pw_iret dc_Law_clerk_11 rfl rfl h
  · refine pw_astore_n dc_Law_clerk_12 (by decide) rfl ?_
    refine pw_iconst (v := 2) dc_Law_clerk_13 (by decide) ?_
    exact pw_iret dc_Law_clerk_14 rfl rfl h
theorem dc_Law_resubmit_0 : decode M_Law_resubmit.2.1 0 = .ok (.aload_n 2, 1) := by decide +kernel
theorem dc_Law_resubmit_1 : decode M_Law_resubmit.2.1 1 = .ok (.iconst 0, 1) := by decide +kernel
theorem dc_Law_resubmit_2 : decode M_Law_resubmit.2.1 2 = .ok (.aload_n 0, 1) := by decide +kernel
theorem dc_Law_resubmit_3 : decode M_Law_resubmit.2.1 3 = .ok (.iload_n 1, 1) := by decide +kernel
theorem dc_Law_resubmit_4 : decode M_Law_resubmit.2.1 4 = .ok (.invokevirtual 55, 3) := by decide +kernel
theorem dc_Law_resubmit_7 : decode M_Law_resubmit.2.1 7 = .ok (.i2l, 1) := by decide +kernel
theorem dc_Law_resubmit_8 : decode M_Law_resubmit.2.1 8 = .ok (.lastore, 1) := by decide +kernel
theorem dc_Law_resubmit_9 : decode M_Law_resubmit.2.1 9 = .ok (.goto 9, 3) := by decide +kernel
theorem dc_Law_resubmit_12 : decode M_Law_resubmit.2.1 12 = .ok (.astore_n 3, 1) := by decide +kernel
theorem dc_Law_resubmit_13 : decode M_Law_resubmit.2.1 13 = .ok (.iconst 1, 1) := by decide +kernel
theorem dc_Law_resubmit_14 : decode M_Law_resubmit.2.1 14 = .ok (.ireturn, 1) := by decide +kernel
theorem dc_Law_resubmit_15 : decode M_Law_resubmit.2.1 15 = .ok (.astore_n 3, 1) := by decide +kernel
theorem dc_Law_resubmit_16 : decode M_Law_resubmit.2.1 16 = .ok (.iconst 2, 1) := by decide +kernel
theorem dc_Law_resubmit_17 : decode M_Law_resubmit.2.1 17 = .ok (.ireturn, 1) := by decide +kernel
theorem dc_Law_resubmit_18 : decode M_Law_resubmit.2.1 18 = .ok (.iconst 0, 1) := by decide +kernel
theorem dc_Law_resubmit_19 : decode M_Law_resubmit.2.1 19 = .ok (.ireturn, 1) := by decide +kernel
set_option maxRecDepth 20000 in
theorem e_Law_resubmit_0 {d : Nat} {σ : PH} {K : PO → PH → Prop} (x0 : Nat) (x1 : Int32) (x2 : Nat) (h : sh σ x0 = (1, 0) ∧ PW d M_Desk_resubmit 0 [.ref x0, .int x1, uu, uu] [] σ (kHI (fun r1 σ1 => (∃ n1 : Nat, sh σ1 x2 = (5, n1) ∧ vp_in 0 n1 ∧ (∀ σ2 : PH, σ2 = uL σ1 x2 (ix 0) r1.toInt64 → K (.inl (some (.int 0))) σ2))) (fun σ1 => K (.inl (some (.int 1))) σ1) (fun σ1 => K (.inl (some (.int 2))) σ1))) : PW (d + 1) M_Law_resubmit 0 [.ref x0, .int x1, .ref x2, uu] [] σ K := by
  refine pw_aload_n dc_Law_resubmit_0 rfl rfl ?_
  refine pw_iconst (v := 0) dc_Law_resubmit_1 (by decide) ?_
  refine pw_aload_n dc_Law_resubmit_2 rfl rfl ?_
  refine pw_iload_n dc_Law_resubmit_3 rfl ?_
  obtain ⟨hs1, h⟩ := h
  refine pw_callVC (hs := [12, 15]) (vs := [.int x1]) (st := [.int 0, .ref x2]) (b := x0) (cn := 0) dc_Law_resubmit_4 cq_Desk_resubmit (List.mem_of_getElem? (i := 938) (by decide +kernel)) (List.mem_of_getElem? (i := 939) (by decide +kernel)) (List.mem_of_getElem? (i := 937) (by decide +kernel)) rfl hs1 ⟨0, 9, 12, 13, by decide, by decide, by decide, List.mem_of_getElem? (i := 396) (by decide +kernel), Or.inr ⟨15, 26, by decide, List.mem_of_getElem? (i := 708) (by decide +kernel), rfl, rfl⟩⟩ rfl (by decide) (cat_cons rfl (cat_nil)) (Nat.le_of_ble_eq_true rfl) (PW.mono (kHI_kC2 (fun r1 σ1 h => ?_) (fun σ1 h a => ?_) (fun σ1 h a => ?_)) h)
  · refine pw_i2l dc_Law_resubmit_7 ?_
    obtain ⟨n1, hs2, h⟩ := h
    obtain ⟨hi1, h⟩ := h
    have h := h _ rfl
    refine pw_last dc_Law_resubmit_8 hs2 hi1 ?_
    refine pw_goto (tgt := 18) dc_Law_resubmit_9 (by decide) ?_
    refine pw_iconst (v := 0) dc_Law_resubmit_18 (by decide) ?_
    exact pw_iret dc_Law_resubmit_19 rfl rfl h
  · refine pw_astore_n dc_Law_resubmit_12 (by decide) rfl ?_
    refine pw_iconst (v := 1) dc_Law_resubmit_13 (by decide) ?_
    exact pw_iret dc_Law_resubmit_14 rfl rfl h
  · refine pw_astore_n dc_Law_resubmit_15 (by decide) rfl ?_
    refine pw_iconst (v := 2) dc_Law_resubmit_16 (by decide) ?_
    exact pw_iret dc_Law_resubmit_17 rfl rfl h
