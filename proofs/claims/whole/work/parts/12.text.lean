theorem fl_Text_9 : FL "RelayDesk$Text" 9 3 0 := ⟨by decide, by decide, Or.inl (List.mem_of_getElem? (i := 192) (by decide +kernel))⟩
theorem fl_Text_15 : FL "RelayDesk$Text" 15 3 1 := ⟨by decide, by decide, Or.inl (List.mem_of_getElem? (i := 193) (by decide +kernel))⟩
theorem dc_Text_init_0 : decode M_Text_init.2.1 0 = .ok (.aload_n 0, 1) := by decide +kernel
theorem dc_Text_init_1 : decode M_Text_init.2.1 1 = .ok (.invokespecial 3, 3) := by decide +kernel
theorem dc_Text_init_4 : decode M_Text_init.2.1 4 = .ok (.aload_n 0, 1) := by decide +kernel
theorem dc_Text_init_5 : decode M_Text_init.2.1 5 = .ok (.iload_n 1, 1) := by decide +kernel
theorem dc_Text_init_6 : decode M_Text_init.2.1 6 = .ok (.newarray .char, 2) := by decide +kernel
theorem dc_Text_init_8 : decode M_Text_init.2.1 8 = .ok (.putfield 9, 3) := by decide +kernel
theorem dc_Text_init_11 : decode M_Text_init.2.1 11 = .ok (.return_, 1) := by decide +kernel
set_option maxRecDepth 20000 in
theorem e_Text_init_0 {d : Nat} {σ : PH} {K : PO → PH → Prop} (x0 : Nat) (x1 : Int32) (h : (∃ n1 : Nat, (x1 = nI n1 ∧ n1 ≤ 65536) ∧ cc σ + 1 ≤ 601024 ∧ cs σ + n1 ≤ 7293034 ∧ (∀ σ1 : PH, σ1 = mk σ (3, n1) n1 → sh σ1 x0 = (1, 3) ∧ (∀ σ2 : PH, σ2 = pR σ1 192 x0 (some (nx σ)) → K (.inl none) σ2)))) : PW (d + 1) M_Text_init 0 [.ref x0, .int x1] [] σ K := by
  refine pw_aload_n dc_Text_init_0 rfl rfl ?_
  refine pw_objInit dc_Text_init_1 (List.mem_of_getElem? (i := 191) (by decide +kernel)) (List.mem_of_getElem? (i := 91) (by decide +kernel)) (List.mem_of_getElem? (i := 92) (by decide +kernel)) (Nat.le_of_ble_eq_true rfl) ?_
  refine pw_aload_n dc_Text_init_4 rfl rfl ?_
  refine pw_iload_n dc_Text_init_5 rfl ?_
  obtain ⟨n1, ⟨hn1, hl1⟩, h⟩ := h
  refine PW.top (congrArg Value.int hn1) ?_
  obtain ⟨hr1, hr2, h⟩ := h
  have h := h _ rfl
  refine pw_newa (k := 3) (N := n1) dc_Text_init_6 (by unfold nk; decide) rfl (List.mem_of_getElem? (i := 202) (by decide +kernel)) hl1 hr1 hr2 ?_
  obtain ⟨hs1, h⟩ := h
  have h := h _ rfl
  refine pw_putR (c := 3) (k := 0) (f := 192) (v := some (nx σ)) dc_Text_init_8 fl_Text_9 (Or.inr ⟨rfl, rfl, rfl, List.mem_of_getElem? (i := 192) (by decide +kernel)⟩) rfl rfl hs1 ?_
  exact pw_vret dc_Text_init_11 rfl h
theorem dc_Text_clear_0 : decode M_Text_clear.2.1 0 = .ok (.aload_n 0, 1) := by decide +kernel
theorem dc_Text_clear_1 : decode M_Text_clear.2.1 1 = .ok (.iconst 0, 1) := by decide +kernel
theorem dc_Text_clear_2 : decode M_Text_clear.2.1 2 = .ok (.putfield 15, 3) := by decide +kernel
theorem dc_Text_clear_5 : decode M_Text_clear.2.1 5 = .ok (.return_, 1) := by decide +kernel
set_option maxRecDepth 20000 in
theorem e_Text_clear_0 {d : Nat} {σ : PH} {K : PO → PH → Prop} (x0 : Nat) (h : sh σ x0 = (1, 3) ∧ (∀ σ1 : PH, σ1 = pI σ 193 x0 0 → K (.inl none) σ1)) : PW d M_Text_clear 0 [.ref x0] [] σ K := by
  refine pw_aload_n dc_Text_clear_0 rfl rfl ?_
  refine pw_iconst (v := 0) dc_Text_clear_1 (by decide) ?_
  obtain ⟨hs1, h⟩ := h
  have h := h _ rfl
  refine pw_putI (c := 3) (k := 1) (f := 193) dc_Text_clear_2 fl_Text_15 (Or.inl rfl) rfl rfl hs1 ?_
  exact pw_vret dc_Text_clear_5 rfl h
theorem dc_Text_add_0 : decode M_Text_add.2.1 0 = .ok (.aload_n 0, 1) := by decide +kernel
theorem dc_Text_add_1 : decode M_Text_add.2.1 1 = .ok (.getfield 15, 3) := by decide +kernel
theorem dc_Text_add_4 : decode M_Text_add.2.1 4 = .ok (.aload_n 0, 1) := by decide +kernel
theorem dc_Text_add_5 : decode M_Text_add.2.1 5 = .ok (.getfield 9, 3) := by decide +kernel
theorem dc_Text_add_8 : decode M_Text_add.2.1 8 = .ok (.arraylength, 1) := by decide +kernel
theorem dc_Text_add_9 : decode M_Text_add.2.1 9 = .ok (.if_icmp .ge 23, 3) := by decide +kernel
theorem dc_Text_add_12 : decode M_Text_add.2.1 12 = .ok (.aload_n 0, 1) := by decide +kernel
theorem dc_Text_add_13 : decode M_Text_add.2.1 13 = .ok (.getfield 9, 3) := by decide +kernel
theorem dc_Text_add_16 : decode M_Text_add.2.1 16 = .ok (.aload_n 0, 1) := by decide +kernel
theorem dc_Text_add_17 : decode M_Text_add.2.1 17 = .ok (.getfield 15, 3) := by decide +kernel
theorem dc_Text_add_20 : decode M_Text_add.2.1 20 = .ok (.iload_n 1, 1) := by decide +kernel
theorem dc_Text_add_21 : decode M_Text_add.2.1 21 = .ok (.castore, 1) := by decide +kernel
theorem dc_Text_add_22 : decode M_Text_add.2.1 22 = .ok (.aload_n 0, 1) := by decide +kernel
theorem dc_Text_add_23 : decode M_Text_add.2.1 23 = .ok (.dup, 1) := by decide +kernel
theorem dc_Text_add_24 : decode M_Text_add.2.1 24 = .ok (.getfield 15, 3) := by decide +kernel
theorem dc_Text_add_27 : decode M_Text_add.2.1 27 = .ok (.iconst 1, 1) := by decide +kernel
theorem dc_Text_add_28 : decode M_Text_add.2.1 28 = .ok (.iadd, 1) := by decide +kernel
theorem dc_Text_add_29 : decode M_Text_add.2.1 29 = .ok (.putfield 15, 3) := by decide +kernel
theorem dc_Text_add_32 : decode M_Text_add.2.1 32 = .ok (.return_, 1) := by decide +kernel
set_option maxRecDepth 20000 in
theorem e_Text_add_0 {d : Nat} {σ : PH} {K : PO → PH → Prop} (x0 : Nat) (x1 : Int32) (h : sh σ x0 = (1, 3) ∧ (∃ b1 : Nat, gR σ 192 x0 = some b1 ∧ (∃ n1 : Nat, sh σ b1 = (3, n1) ∧ (if (nI n1) ≤ (gI σ 193 x0) then K (.inl none) σ else vp_in (gI σ 193 x0) n1 ∧ ch x1 ∧ (∀ σ1 : PH, σ1 = uI σ b1 (ix (gI σ 193 x0)) x1 → sh σ1 x0 = (1, 3) ∧ (∀ σ2 : PH, σ2 = pI σ1 193 x0 ((gI σ1 193 x0) + 1) → K (.inl none) σ2)))))) : PW d M_Text_add 0 [.ref x0, .int x1] [] σ K := by
  refine pw_aload_n dc_Text_add_0 rfl rfl ?_
  obtain ⟨hs1, h⟩ := h
  refine pw_getI (c := 3) (k := 1) (f := 193) dc_Text_add_1 fl_Text_15 rfl rfl hs1 ?_
  refine pw_aload_n dc_Text_add_4 rfl rfl ?_
  refine pw_getR (c := 3) (k := 0) (f := 192) dc_Text_add_5 fl_Text_9 rfl rfl hs1 ?_
  obtain ⟨b1, hb1, h⟩ := h
  refine PW.top (v' := .ref b1) (congrArg va_rf hb1) ?_
  obtain ⟨n1, hs2, h⟩ := h
  refine pw_alen dc_Text_add_8 (by decide) hs2 ?_
  refine pw_icmp_ge (tgt := 32) dc_Text_add_9 (by decide) (fun hc => ?_) (fun hc => ?_)
  · have h := ite_t h hc
    exact pw_vret dc_Text_add_32 rfl h
  · have h := ite_f h hc
    refine pw_aload_n dc_Text_add_12 rfl rfl ?_
    refine pw_getR (c := 3) (k := 0) (f := 192) dc_Text_add_13 fl_Text_9 rfl rfl hs1 ?_
    refine PW.top (v' := .ref b1) (congrArg va_rf hb1) ?_
    refine pw_aload_n dc_Text_add_16 rfl rfl ?_
    refine pw_getI (c := 3) (k := 1) (f := 193) dc_Text_add_17 fl_Text_15 rfl rfl hs1 ?_
    refine pw_iload_n dc_Text_add_20 rfl ?_
    obtain ⟨hi1, h⟩ := h
    obtain ⟨hc1, h⟩ := h
    have h := h _ rfl
    refine pw_cast dc_Text_add_21 hs2 hi1 hc1 ?_
    refine pw_aload_n dc_Text_add_22 rfl rfl ?_
    refine pw_dup dc_Text_add_23 rfl ?_
    obtain ⟨hs3, h⟩ := h
    refine pw_getI (c := 3) (k := 1) (f := 193) dc_Text_add_24 fl_Text_15 rfl rfl hs3 ?_
    refine pw_iconst (v := 1) dc_Text_add_27 (by decide) ?_
    refine pw_iadd dc_Text_add_28 ?_
    have h := h _ rfl
    refine pw_putI (c := 3) (k := 1) (f := 193) dc_Text_add_29 fl_Text_15 (Or.inl rfl) rfl rfl hs3 ?_
    exact pw_vret dc_Text_add_32 rfl h
theorem dc_Text_addNumber_0 : decode M_Text_addNumber.2.1 0 = .ok (.aload_n 0, 1) := by decide +kernel
theorem dc_Text_addNumber_1 : decode M_Text_addNumber.2.1 1 = .ok (.bipush 48, 2) := by decide +kernel
theorem dc_Text_addNumber_3 : decode M_Text_addNumber.2.1 3 = .ok (.iload_n 1, 1) := by decide +kernel
theorem dc_Text_addNumber_4 : decode M_Text_addNumber.2.1 4 = .ok (.bipush 100, 2) := by decide +kernel
theorem dc_Text_addNumber_6 : decode M_Text_addNumber.2.1 6 = .ok (.idiv, 1) := by decide +kernel
theorem dc_Text_addNumber_7 : decode M_Text_addNumber.2.1 7 = .ok (.bipush 10, 2) := by decide +kernel
theorem dc_Text_addNumber_9 : decode M_Text_addNumber.2.1 9 = .ok (.irem, 1) := by decide +kernel
theorem dc_Text_addNumber_10 : decode M_Text_addNumber.2.1 10 = .ok (.iadd, 1) := by decide +kernel
theorem dc_Text_addNumber_11 : decode M_Text_addNumber.2.1 11 = .ok (.i2c, 1) := by decide +kernel
theorem dc_Text_addNumber_12 : decode M_Text_addNumber.2.1 12 = .ok (.invokevirtual 19, 3) := by decide +kernel
theorem dc_Text_addNumber_15 : decode M_Text_addNumber.2.1 15 = .ok (.aload_n 0, 1) := by decide +kernel
theorem dc_Text_addNumber_16 : decode M_Text_addNumber.2.1 16 = .ok (.bipush 48, 2) := by decide +kernel
theorem dc_Text_addNumber_18 : decode M_Text_addNumber.2.1 18 = .ok (.iload_n 1, 1) := by decide +kernel
theorem dc_Text_addNumber_19 : decode M_Text_addNumber.2.1 19 = .ok (.bipush 10, 2) := by decide +kernel
theorem dc_Text_addNumber_21 : decode M_Text_addNumber.2.1 21 = .ok (.idiv, 1) := by decide +kernel
theorem dc_Text_addNumber_22 : decode M_Text_addNumber.2.1 22 = .ok (.bipush 10, 2) := by decide +kernel
theorem dc_Text_addNumber_24 : decode M_Text_addNumber.2.1 24 = .ok (.irem, 1) := by decide +kernel
theorem dc_Text_addNumber_25 : decode M_Text_addNumber.2.1 25 = .ok (.iadd, 1) := by decide +kernel
theorem dc_Text_addNumber_26 : decode M_Text_addNumber.2.1 26 = .ok (.i2c, 1) := by decide +kernel
theorem dc_Text_addNumber_27 : decode M_Text_addNumber.2.1 27 = .ok (.invokevirtual 19, 3) := by decide +kernel
theorem dc_Text_addNumber_30 : decode M_Text_addNumber.2.1 30 = .ok (.aload_n 0, 1) := by decide +kernel
theorem dc_Text_addNumber_31 : decode M_Text_addNumber.2.1 31 = .ok (.bipush 48, 2) := by decide +kernel
theorem dc_Text_addNumber_33 : decode M_Text_addNumber.2.1 33 = .ok (.iload_n 1, 1) := by decide +kernel
theorem dc_Text_addNumber_34 : decode M_Text_addNumber.2.1 34 = .ok (.bipush 10, 2) := by decide +kernel
theorem dc_Text_addNumber_36 : decode M_Text_addNumber.2.1 36 = .ok (.irem, 1) := by decide +kernel
theorem dc_Text_addNumber_37 : decode M_Text_addNumber.2.1 37 = .ok (.iadd, 1) := by decide +kernel
theorem dc_Text_addNumber_38 : decode M_Text_addNumber.2.1 38 = .ok (.i2c, 1) := by decide +kernel
theorem dc_Text_addNumber_39 : decode M_Text_addNumber.2.1 39 = .ok (.invokevirtual 19, 3) := by decide +kernel
theorem dc_Text_addNumber_42 : decode M_Text_addNumber.2.1 42 = .ok (.return_, 1) := by decide +kernel
set_option maxRecDepth 20000 in
theorem e_Text_addNumber_0 {d : Nat} {σ : PH} {K : PO → PH → Prop} (x0 : Nat) (x1 : Int32) (h : sh σ x0 = (1, 3) ∧ PW d M_Text_add 0 [.ref x0, .int (((48 + ((x1 / 100) - (x1 / 100) / 10 * 10)).toUInt32 % 65536).toInt32)] [] σ (kV (fun σ1 => sh σ1 x0 = (1, 3) ∧ PW d M_Text_add 0 [.ref x0, .int (((48 + ((x1 / 10) - (x1 / 10) / 10 * 10)).toUInt32 % 65536).toInt32)] [] σ1 (kV (fun σ2 => sh σ2 x0 = (1, 3) ∧ PW d M_Text_add 0 [.ref x0, .int (((48 + (x1 - x1 / 10 * 10)).toUInt32 % 65536).toInt32)] [] σ2 (kV (fun σ3 => K (.inl none) σ3) K)) K)) K)) : PW (d + 1) M_Text_addNumber 0 [.ref x0, .int x1] [] σ K := by
  refine pw_aload_n dc_Text_addNumber_0 rfl rfl ?_
  refine pw_bipush (v := 48) dc_Text_addNumber_1 (by decide) ?_
  refine pw_iload_n dc_Text_addNumber_3 rfl ?_
  refine pw_bipush (v := 100) dc_Text_addNumber_4 (by decide) ?_
  refine pw_idiv dc_Text_addNumber_6 (by decide) ?_
  refine pw_bipush (v := 10) dc_Text_addNumber_7 (by decide) ?_
  refine pw_irem dc_Text_addNumber_9 (by decide) ?_
  refine pw_iadd dc_Text_addNumber_10 ?_
  refine pw_i2c dc_Text_addNumber_11 ?_
  obtain ⟨hs1, h⟩ := h
  refine pw_callV (vs := [.int (((48 + ((x1 / 100) - (x1 / 100) / 10 * 10)).toUInt32 % 65536).toInt32)]) (st := []) (b := x0) (cn := 3) dc_Text_addNumber_12 cq_Text_add (List.mem_of_getElem? (i := 527) (by decide +kernel)) (List.mem_of_getElem? (i := 528) (by decide +kernel)) (List.mem_of_getElem? (i := 672) (by decide +kernel)) rfl hs1 rfl rfl (by decide) (cat_cons rfl (cat_nil)) (Nat.le_of_ble_eq_true rfl) (PW.mono (kV_kN (fun σ1 h => ?_)) h)
  refine pw_aload_n dc_Text_addNumber_15 rfl rfl ?_
  refine pw_bipush (v := 48) dc_Text_addNumber_16 (by decide) ?_
  refine pw_iload_n dc_Text_addNumber_18 rfl ?_
  refine pw_bipush (v := 10) dc_Text_addNumber_19 (by decide) ?_
  refine pw_idiv dc_Text_addNumber_21 (by decide) ?_
  refine pw_bipush (v := 10) dc_Text_addNumber_22 (by decide) ?_
  refine pw_irem dc_Text_addNumber_24 (by decide) ?_
  refine pw_iadd dc_Text_addNumber_25 ?_
  refine pw_i2c dc_Text_addNumber_26 ?_
  obtain ⟨hs2, h⟩ := h
  refine pw_callV (vs := [.int (((48 + ((x1 / 10) - (x1 / 10) / 10 * 10)).toUInt32 % 65536).toInt32)]) (st := []) (b := x0) (cn := 3) dc_Text_addNumber_27 cq_Text_add (List.mem_of_getElem? (i := 527) (by decide +kernel)) (List.mem_of_getElem? (i := 528) (by decide +kernel)) (List.mem_of_getElem? (i := 672) (by decide +kernel)) rfl hs2 rfl rfl (by decide) (cat_cons rfl (cat_nil)) (Nat.le_of_ble_eq_true rfl) (PW.mono (kV_kN (fun σ2 h => ?_)) h)
  refine pw_aload_n dc_Text_addNumber_30 rfl rfl ?_
  refine pw_bipush (v := 48) dc_Text_addNumber_31 (by decide) ?_
  refine pw_iload_n dc_Text_addNumber_33 rfl ?_
  refine pw_bipush (v := 10) dc_Text_addNumber_34 (by decide) ?_
  refine pw_irem dc_Text_addNumber_36 (by decide) ?_
  refine pw_iadd dc_Text_addNumber_37 ?_
  refine pw_i2c dc_Text_addNumber_38 ?_
  obtain ⟨hs3, h⟩ := h
  refine pw_callV (vs := [.int (((48 + (x1 - x1 / 10 * 10)).toUInt32 % 65536).toInt32)]) (st := []) (b := x0) (cn := 3) dc_Text_addNumber_39 cq_Text_add (List.mem_of_getElem? (i := 527) (by decide +kernel)) (List.mem_of_getElem? (i := 528) (by decide +kernel)) (List.mem_of_getElem? (i := 672) (by decide +kernel)) rfl hs3 rfl rfl (by decide) (cat_cons rfl (cat_nil)) (Nat.le_of_ble_eq_true rfl) (PW.mono (kV_kN (fun σ3 h => ?_)) h)
  exact pw_vret dc_Text_addNumber_42 rfl h
theorem dc_Text_addIndicator_0 : decode M_Text_addIndicator.2.1 0 = .ok (.sipush 17576, 3) := by decide +kernel
theorem dc_Text_addIndicator_3 : decode M_Text_addIndicator.2.1 3 = .ok (.istore_n 2, 1) := by decide +kernel
theorem dc_Text_addIndicator_4 : decode M_Text_addIndicator.2.1 4 = .ok (.iconst 0, 1) := by decide +kernel
theorem dc_Text_addIndicator_5 : decode M_Text_addIndicator.2.1 5 = .ok (.istore_n 3, 1) := by decide +kernel
theorem dc_Text_addIndicator_6 : decode M_Text_addIndicator.2.1 6 = .ok (.iload_n 3, 1) := by decide +kernel
theorem dc_Text_addIndicator_7 : decode M_Text_addIndicator.2.1 7 = .ok (.iconst 4, 1) := by decide +kernel
theorem dc_Text_addIndicator_8 : decode M_Text_addIndicator.2.1 8 = .ok (.if_icmp .ge 32, 3) := by decide +kernel
theorem dc_Text_addIndicator_11 : decode M_Text_addIndicator.2.1 11 = .ok (.aload_n 0, 1) := by decide +kernel
theorem dc_Text_addIndicator_12 : decode M_Text_addIndicator.2.1 12 = .ok (.bipush 65, 2) := by decide +kernel
theorem dc_Text_addIndicator_14 : decode M_Text_addIndicator.2.1 14 = .ok (.iload_n 1, 1) := by decide +kernel
theorem dc_Text_addIndicator_15 : decode M_Text_addIndicator.2.1 15 = .ok (.iload_n 2, 1) := by decide +kernel
theorem dc_Text_addIndicator_16 : decode M_Text_addIndicator.2.1 16 = .ok (.idiv, 1) := by decide +kernel
theorem dc_Text_addIndicator_17 : decode M_Text_addIndicator.2.1 17 = .ok (.bipush 26, 2) := by decide +kernel
theorem dc_Text_addIndicator_19 : decode M_Text_addIndicator.2.1 19 = .ok (.irem, 1) := by decide +kernel
theorem dc_Text_addIndicator_20 : decode M_Text_addIndicator.2.1 20 = .ok (.iadd, 1) := by decide +kernel
theorem dc_Text_addIndicator_21 : decode M_Text_addIndicator.2.1 21 = .ok (.i2c, 1) := by decide +kernel
theorem dc_Text_addIndicator_22 : decode M_Text_addIndicator.2.1 22 = .ok (.invokevirtual 19, 3) := by decide +kernel
theorem dc_Text_addIndicator_25 : decode M_Text_addIndicator.2.1 25 = .ok (.iconst 1, 1) := by decide +kernel
theorem dc_Text_addIndicator_26 : decode M_Text_addIndicator.2.1 26 = .ok (.iload_n 2, 1) := by decide +kernel
theorem dc_Text_addIndicator_27 : decode M_Text_addIndicator.2.1 27 = .ok (.bipush 26, 2) := by decide +kernel
theorem dc_Text_addIndicator_29 : decode M_Text_addIndicator.2.1 29 = .ok (.idiv, 1) := by decide +kernel
theorem dc_Text_addIndicator_30 : decode M_Text_addIndicator.2.1 30 = .ok (.invokestatic 23, 3) := by decide +kernel
theorem dc_Text_addIndicator_33 : decode M_Text_addIndicator.2.1 33 = .ok (.istore_n 2, 1) := by decide +kernel
theorem dc_Text_addIndicator_34 : decode M_Text_addIndicator.2.1 34 = .ok (.iinc 3 1, 3) := by decide +kernel
theorem dc_Text_addIndicator_37 : decode M_Text_addIndicator.2.1 37 = .ok (.goto (-31), 3) := by decide +kernel
theorem dc_Text_addIndicator_40 : decode M_Text_addIndicator.2.1 40 = .ok (.return_, 1) := by decide +kernel
set_option maxRecDepth 20000 in
theorem e_Text_addIndicator_0 {d : Nat} {σ : PH} {K : PO → PH → Prop} (x0 : Nat) (x1 : Int32) (h : PW (d + 1) M_Text_addIndicator 6 [.ref x0, .int x1, .int 17576, .int 0] [] σ K) : PW (d + 1) M_Text_addIndicator 0 [.ref x0, .int x1, uu, uu] [] σ K := by
  refine pw_sipush (v := 17576) dc_Text_addIndicator_0 (by decide) ?_
  refine pw_istore_n dc_Text_addIndicator_3 (by decide) ?_
  refine pw_iconst (v := 0) dc_Text_addIndicator_4 (by decide) ?_
  refine pw_istore_n dc_Text_addIndicator_5 (by decide) ?_
  exact h
set_option maxRecDepth 20000 in
theorem e_Text_addIndicator_6 {d : Nat} {σ : PH} {K : PO → PH → Prop} (x0 : Nat) (x1 : Int32) (x2 : Int32) (x3 : Int32) (h : (if 4 ≤ x3 then K (.inl none) σ else ¬ x2 = 0 ∧ sh σ x0 = (1, 3) ∧ PW d M_Text_add 0 [.ref x0, .int (((65 + ((x1 / x2) - (x1 / x2) / 26 * 26)).toUInt32 % 65536).toInt32)] [] σ (kV (fun σ1 => PW (d + 1) M_Text_addIndicator 6 [.ref x0, .int x1, .int (if 1 < (x2 / 26) then x2 / 26 else 1), .int (x3 + 1)] [] σ1 K) K))) : PW (d + 1) M_Text_addIndicator 6 [.ref x0, .int x1, .int x2, .int x3] [] σ K := by
  refine pw_iload_n dc_Text_addIndicator_6 rfl ?_
  refine pw_iconst (v := 4) dc_Text_addIndicator_7 (by decide) ?_
  refine pw_icmp_ge (tgt := 40) dc_Text_addIndicator_8 (by decide) (fun hc => ?_) (fun hc => ?_)
  · have h := ite_t h hc
    exact pw_vret dc_Text_addIndicator_40 rfl h
  · have h := ite_f h hc
    refine pw_aload_n dc_Text_addIndicator_11 rfl rfl ?_
    refine pw_bipush (v := 65) dc_Text_addIndicator_12 (by decide) ?_
    refine pw_iload_n dc_Text_addIndicator_14 rfl ?_
    refine pw_iload_n dc_Text_addIndicator_15 rfl ?_
    obtain ⟨hy1, h⟩ := h
    refine pw_idiv dc_Text_addIndicator_16 hy1 ?_
    refine pw_bipush (v := 26) dc_Text_addIndicator_17 (by decide) ?_
    refine pw_irem dc_Text_addIndicator_19 (by decide) ?_
    refine pw_iadd dc_Text_addIndicator_20 ?_
    refine pw_i2c dc_Text_addIndicator_21 ?_
    obtain ⟨hs1, h⟩ := h
    refine pw_callV (vs := [.int (((65 + ((x1 / x2) - (x1 / x2) / 26 * 26)).toUInt32 % 65536).toInt32)]) (st := []) (b := x0) (cn := 3) dc_Text_addIndicator_22 cq_Text_add (List.mem_of_getElem? (i := 527) (by decide +kernel)) (List.mem_of_getElem? (i := 528) (by decide +kernel)) (List.mem_of_getElem? (i := 672) (by decide +kernel)) rfl hs1 rfl rfl (by decide) (cat_cons rfl (cat_nil)) (Nat.le_of_ble_eq_true rfl) (PW.mono (kV_kN (fun σ1 h => ?_)) h)
    refine pw_iconst (v := 1) dc_Text_addIndicator_25 (by decide) ?_
    refine pw_iload_n dc_Text_addIndicator_26 rfl ?_
    refine pw_bipush (v := 26) dc_Text_addIndicator_27 (by decide) ?_
    refine pw_idiv dc_Text_addIndicator_29 (by decide) ?_
    refine pw_mmax dc_Text_addIndicator_30 (List.mem_of_getElem? (i := 803) (by decide +kernel)) (Nat.le_of_ble_eq_true rfl) ?_
    refine pw_istore_n dc_Text_addIndicator_33 (by decide) ?_
    refine pw_iincv (v := 1) dc_Text_addIndicator_34 (by decide) rfl (by decide) ?_
    refine pw_goto (tgt := 6) dc_Text_addIndicator_37 (by decide) ?_
    exact h
theorem dc_Text_addFrom_0 : decode M_Text_addFrom.2.1 0 = .ok (.iload_n 2, 1) := by decide +kernel
theorem dc_Text_addFrom_1 : decode M_Text_addFrom.2.1 1 = .ok (.istore_n 3, 1) := by decide +kernel
theorem dc_Text_addFrom_2 : decode M_Text_addFrom.2.1 2 = .ok (.iload_n 3, 1) := by decide +kernel
theorem dc_Text_addFrom_3 : decode M_Text_addFrom.2.1 3 = .ok (.aload_n 1, 1) := by decide +kernel
theorem dc_Text_addFrom_4 : decode M_Text_addFrom.2.1 4 = .ok (.getfield 15, 3) := by decide +kernel
theorem dc_Text_addFrom_7 : decode M_Text_addFrom.2.1 7 = .ok (.if_icmp .ge 18, 3) := by decide +kernel
theorem dc_Text_addFrom_10 : decode M_Text_addFrom.2.1 10 = .ok (.aload_n 0, 1) := by decide +kernel
theorem dc_Text_addFrom_11 : decode M_Text_addFrom.2.1 11 = .ok (.aload_n 1, 1) := by decide +kernel
theorem dc_Text_addFrom_12 : decode M_Text_addFrom.2.1 12 = .ok (.iload_n 3, 1) := by decide +kernel
theorem dc_Text_addFrom_13 : decode M_Text_addFrom.2.1 13 = .ok (.invokevirtual 29, 3) := by decide +kernel
theorem dc_Text_addFrom_16 : decode M_Text_addFrom.2.1 16 = .ok (.invokevirtual 19, 3) := by decide +kernel
theorem dc_Text_addFrom_19 : decode M_Text_addFrom.2.1 19 = .ok (.iinc 3 1, 3) := by decide +kernel
theorem dc_Text_addFrom_22 : decode M_Text_addFrom.2.1 22 = .ok (.goto (-20), 3) := by decide +kernel
theorem dc_Text_addFrom_25 : decode M_Text_addFrom.2.1 25 = .ok (.return_, 1) := by decide +kernel
set_option maxRecDepth 20000 in
theorem e_Text_addFrom_0 {d : Nat} {σ : PH} {K : PO → PH → Prop} (x0 : Nat) (x1 : Nat) (x2 : Int32) (h : PW (d + 1) M_Text_addFrom 2 [.ref x0, .ref x1, uu, .int x2] [] σ K) : PW (d + 1) M_Text_addFrom 0 [.ref x0, .ref x1, .int x2, uu] [] σ K := by
  refine pw_iload_n dc_Text_addFrom_0 rfl ?_
  refine pw_istore_n dc_Text_addFrom_1 (by decide) ?_
  refine PW.drop (ls' := [.ref x0, .ref x1, uu, .int x2]) ⟨Or.inl rfl, Or.inl rfl, Or.inr rfl, Or.inl rfl, trivial⟩ ?_
  exact h
set_option maxRecDepth 20000 in
theorem e_Text_addFrom_2 {d : Nat} {σ : PH} {K : PO → PH → Prop} (x0 : Nat) (x1 : Nat) (x3 : Int32) (h : sh σ x1 = (1, 3) ∧ (if (gI σ 193 x1) ≤ x3 then K (.inl none) σ else PW d M_Text_at 0 [.ref x1, .int x3] [] σ (kI (fun r1 σ1 => sh σ1 x0 = (1, 3) ∧ PW d M_Text_add 0 [.ref x0, .int r1] [] σ1 (kV (fun σ2 => PW (d + 1) M_Text_addFrom 2 [.ref x0, .ref x1, uu, .int (x3 + 1)] [] σ2 K) K)) K))) : PW (d + 1) M_Text_addFrom 2 [.ref x0, .ref x1, uu, .int x3] [] σ K := by
  refine pw_iload_n dc_Text_addFrom_2 rfl ?_
  refine pw_aload_n dc_Text_addFrom_3 rfl rfl ?_
  obtain ⟨hs1, h⟩ := h
  refine pw_getI (c := 3) (k := 1) (f := 193) dc_Text_addFrom_4 fl_Text_15 rfl rfl hs1 ?_
  refine pw_icmp_ge (tgt := 25) dc_Text_addFrom_7 (by decide) (fun hc => ?_) (fun hc => ?_)
  · have h := ite_t h hc
    exact pw_vret dc_Text_addFrom_25 rfl h
  · have h := ite_f h hc
    refine pw_aload_n dc_Text_addFrom_10 rfl rfl ?_
    refine pw_aload_n dc_Text_addFrom_11 rfl rfl ?_
    refine pw_iload_n dc_Text_addFrom_12 rfl ?_
    refine pw_callV (vs := [.int x3]) (st := [.ref x0]) (b := x1) (cn := 3) dc_Text_addFrom_13 cq_Text_at (List.mem_of_getElem? (i := 563) (by decide +kernel)) (List.mem_of_getElem? (i := 564) (by decide +kernel)) (List.mem_of_getElem? (i := 671) (by decide +kernel)) rfl hs1 rfl rfl (by decide) (cat_cons rfl (cat_nil)) (Nat.le_of_ble_eq_true rfl) (PW.mono (kI_kN (fun r1 σ1 h => ?_)) h)
    obtain ⟨hs2, h⟩ := h
    refine pw_callV (vs := [.int r1]) (st := []) (b := x0) (cn := 3) dc_Text_addFrom_16 cq_Text_add (List.mem_of_getElem? (i := 527) (by decide +kernel)) (List.mem_of_getElem? (i := 528) (by decide +kernel)) (List.mem_of_getElem? (i := 672) (by decide +kernel)) rfl hs2 rfl rfl (by decide) (cat_cons rfl (cat_nil)) (Nat.le_of_ble_eq_true rfl) (PW.mono (kV_kN (fun σ2 h => ?_)) h)
    refine pw_iincv (v := 1) dc_Text_addFrom_19 (by decide) rfl (by decide) ?_
    refine pw_goto (tgt := 2) dc_Text_addFrom_22 (by decide) ?_
    exact h
theorem dc_Text_shortenTo_0 : decode M_Text_shortenTo.2.1 0 = .ok (.aload_n 0, 1) := by decide +kernel
theorem dc_Text_shortenTo_1 : decode M_Text_shortenTo.2.1 1 = .ok (.aload_n 0, 1) := by decide +kernel
theorem dc_Text_shortenTo_2 : decode M_Text_shortenTo.2.1 2 = .ok (.getfield 15, 3) := by decide +kernel
theorem dc_Text_shortenTo_5 : decode M_Text_shortenTo.2.1 5 = .ok (.iload_n 1, 1) := by decide +kernel
theorem dc_Text_shortenTo_6 : decode M_Text_shortenTo.2.1 6 = .ok (.invokestatic 33, 3) := by decide +kernel
theorem dc_Text_shortenTo_9 : decode M_Text_shortenTo.2.1 9 = .ok (.putfield 15, 3) := by decide +kernel
theorem dc_Text_shortenTo_12 : decode M_Text_shortenTo.2.1 12 = .ok (.return_, 1) := by decide +kernel
set_option maxRecDepth 20000 in
theorem e_Text_shortenTo_0 {d : Nat} {σ : PH} {K : PO → PH → Prop} (x0 : Nat) (x1 : Int32) (h : sh σ x0 = (1, 3) ∧ (∀ σ1 : PH, σ1 = pI σ 193 x0 (if x1 < (gI σ 193 x0) then x1 else gI σ 193 x0) → K (.inl none) σ1)) : PW (d + 1) M_Text_shortenTo 0 [.ref x0, .int x1] [] σ K := by
  refine pw_aload_n dc_Text_shortenTo_0 rfl rfl ?_
  refine pw_aload_n dc_Text_shortenTo_1 rfl rfl ?_
  obtain ⟨hs1, h⟩ := h
  refine pw_getI (c := 3) (k := 1) (f := 193) dc_Text_shortenTo_2 fl_Text_15 rfl rfl hs1 ?_
  refine pw_iload_n dc_Text_shortenTo_5 rfl ?_
  refine pw_mmin dc_Text_shortenTo_6 (List.mem_of_getElem? (i := 545) (by decide +kernel)) (Nat.le_of_ble_eq_true rfl) ?_
  have h := h _ rfl
  refine pw_putI (c := 3) (k := 1) (f := 193) dc_Text_shortenTo_9 fl_Text_15 (Or.inl rfl) rfl rfl hs1 ?_
  exact pw_vret dc_Text_shortenTo_12 rfl h
theorem dc_Text_at_0 : decode M_Text_at.2.1 0 = .ok (.iload_n 1, 1) := by decide +kernel
theorem dc_Text_at_1 : decode M_Text_at.2.1 1 = .ok (.ifCond .lt 20, 3) := by decide +kernel
theorem dc_Text_at_4 : decode M_Text_at.2.1 4 = .ok (.iload_n 1, 1) := by decide +kernel
theorem dc_Text_at_5 : decode M_Text_at.2.1 5 = .ok (.aload_n 0, 1) := by decide +kernel
theorem dc_Text_at_6 : decode M_Text_at.2.1 6 = .ok (.getfield 15, 3) := by decide +kernel
theorem dc_Text_at_9 : decode M_Text_at.2.1 9 = .ok (.if_icmp .ge 12, 3) := by decide +kernel
theorem dc_Text_at_12 : decode M_Text_at.2.1 12 = .ok (.aload_n 0, 1) := by decide +kernel
theorem dc_Text_at_13 : decode M_Text_at.2.1 13 = .ok (.getfield 9, 3) := by decide +kernel
theorem dc_Text_at_16 : decode M_Text_at.2.1 16 = .ok (.iload_n 1, 1) := by decide +kernel
theorem dc_Text_at_17 : decode M_Text_at.2.1 17 = .ok (.caload, 1) := by decide +kernel
theorem dc_Text_at_18 : decode M_Text_at.2.1 18 = .ok (.goto 4, 3) := by decide +kernel
theorem dc_Text_at_21 : decode M_Text_at.2.1 21 = .ok (.iconst 0, 1) := by decide +kernel
theorem dc_Text_at_22 : decode M_Text_at.2.1 22 = .ok (.ireturn, 1) := by decide +kernel
set_option maxRecDepth 20000 in
theorem e_Text_at_0 {d : Nat} {σ : PH} {K : PO → PH → Prop} (x0 : Nat) (x1 : Int32) (h : (if x1 < 0 then ch 0 ∧ K (.inl (some (.int 0))) σ else sh σ x0 = (1, 3) ∧ (if (gI σ 193 x0) ≤ x1 then ch 0 ∧ K (.inl (some (.int 0))) σ else (∃ b1 : Nat, gR σ 192 x0 = some b1 ∧ (∃ n1 : Nat, sh σ b1 = (3, n1) ∧ vp_in x1 n1 ∧ ch (eI σ b1 (ix x1)) ∧ K (.inl (some (.int (eI σ b1 (ix x1))))) σ))))) : PW d M_Text_at 0 [.ref x0, .int x1] [] σ K := by
  refine pw_iload_n dc_Text_at_0 rfl ?_
  refine pw_if_lt (tgt := 21) dc_Text_at_1 (by decide) (fun hc => ?_) (fun hc => ?_)
  · have h := ite_t h hc
    refine pw_iconst (v := 0) dc_Text_at_21 (by decide) ?_
    exact pw_iret dc_Text_at_22 rfl h.1 h.2
  · have h := ite_f h hc
    refine pw_iload_n dc_Text_at_4 rfl ?_
    refine pw_aload_n dc_Text_at_5 rfl rfl ?_
    obtain ⟨hs1, h⟩ := h
    refine pw_getI (c := 3) (k := 1) (f := 193) dc_Text_at_6 fl_Text_15 rfl rfl hs1 ?_
    refine pw_icmp_ge (tgt := 21) dc_Text_at_9 (by decide) (fun hc => ?_) (fun hc => ?_)
    · have h := ite_t h hc
      refine pw_iconst (v := 0) dc_Text_at_21 (by decide) ?_
      exact pw_iret dc_Text_at_22 rfl h.1 h.2
    · have h := ite_f h hc
      refine pw_aload_n dc_Text_at_12 rfl rfl ?_
      refine pw_getR (c := 3) (k := 0) (f := 192) dc_Text_at_13 fl_Text_9 rfl rfl hs1 ?_
      obtain ⟨b1, hb1, h⟩ := h
      refine PW.top (v' := .ref b1) (congrArg va_rf hb1) ?_
      refine pw_iload_n dc_Text_at_16 rfl ?_
      obtain ⟨n1, hs2, h⟩ := h
      obtain ⟨hi1, h⟩ := h
      refine pw_cald dc_Text_at_17 hs2 hi1 ?_
      refine pw_goto (tgt := 22) dc_Text_at_18 (by decide) ?_
      exact pw_iret dc_Text_at_22 rfl h.1 h.2
theorem dc_Text_firstLineEnd_0 : decode M_Text_firstLineEnd.2.1 0 = .ok (.iconst 0, 1) := by decide +kernel
theorem dc_Text_firstLineEnd_1 : decode M_Text_firstLineEnd.2.1 1 = .ok (.istore_n 1, 1) := by decide +kernel
theorem dc_Text_firstLineEnd_2 : decode M_Text_firstLineEnd.2.1 2 = .ok (.iload_n 1, 1) := by decide +kernel
theorem dc_Text_firstLineEnd_3 : decode M_Text_firstLineEnd.2.1 3 = .ok (.aload_n 0, 1) := by decide +kernel
theorem dc_Text_firstLineEnd_4 : decode M_Text_firstLineEnd.2.1 4 = .ok (.getfield 15, 3) := by decide +kernel
theorem dc_Text_firstLineEnd_7 : decode M_Text_firstLineEnd.2.1 7 = .ok (.if_icmp .ge 22, 3) := by decide +kernel
theorem dc_Text_firstLineEnd_10 : decode M_Text_firstLineEnd.2.1 10 = .ok (.aload_n 0, 1) := by decide +kernel
theorem dc_Text_firstLineEnd_11 : decode M_Text_firstLineEnd.2.1 11 = .ok (.getfield 9, 3) := by decide +kernel
theorem dc_Text_firstLineEnd_14 : decode M_Text_firstLineEnd.2.1 14 = .ok (.iload_n 1, 1) := by decide +kernel
theorem dc_Text_firstLineEnd_15 : decode M_Text_firstLineEnd.2.1 15 = .ok (.caload, 1) := by decide +kernel
theorem dc_Text_firstLineEnd_16 : decode M_Text_firstLineEnd.2.1 16 = .ok (.bipush 10, 2) := by decide +kernel
theorem dc_Text_firstLineEnd_18 : decode M_Text_firstLineEnd.2.1 18 = .ok (.if_icmp .ne 5, 3) := by decide +kernel
theorem dc_Text_firstLineEnd_21 : decode M_Text_firstLineEnd.2.1 21 = .ok (.iload_n 1, 1) := by decide +kernel
theorem dc_Text_firstLineEnd_22 : decode M_Text_firstLineEnd.2.1 22 = .ok (.ireturn, 1) := by decide +kernel
theorem dc_Text_firstLineEnd_23 : decode M_Text_firstLineEnd.2.1 23 = .ok (.iinc 1 1, 3) := by decide +kernel
theorem dc_Text_firstLineEnd_26 : decode M_Text_firstLineEnd.2.1 26 = .ok (.goto (-24), 3) := by decide +kernel
theorem dc_Text_firstLineEnd_29 : decode M_Text_firstLineEnd.2.1 29 = .ok (.aload_n 0, 1) := by decide +kernel
theorem dc_Text_firstLineEnd_30 : decode M_Text_firstLineEnd.2.1 30 = .ok (.getfield 15, 3) := by decide +kernel
theorem dc_Text_firstLineEnd_33 : decode M_Text_firstLineEnd.2.1 33 = .ok (.ireturn, 1) := by decide +kernel
set_option maxRecDepth 20000 in
theorem e_Text_firstLineEnd_0 {d : Nat} {σ : PH} {K : PO → PH → Prop} (x0 : Nat) (h : PW d M_Text_firstLineEnd 2 [.ref x0, .int 0] [] σ K) : PW d M_Text_firstLineEnd 0 [.ref x0, uu] [] σ K := by
  refine pw_iconst (v := 0) dc_Text_firstLineEnd_0 (by decide) ?_
  refine pw_istore_n dc_Text_firstLineEnd_1 (by decide) ?_
  exact h
set_option maxRecDepth 20000 in
theorem e_Text_firstLineEnd_2 {d : Nat} {σ : PH} {K : PO → PH → Prop} (x0 : Nat) (x1 : Int32) (h : sh σ x0 = (1, 3) ∧ (if (gI σ 193 x0) ≤ x1 then K (.inl (some (.int (gI σ 193 x0)))) σ else (∃ b1 : Nat, gR σ 192 x0 = some b1 ∧ (∃ n1 : Nat, sh σ b1 = (3, n1) ∧ vp_in x1 n1 ∧ (if (eI σ b1 (ix x1)) = 10 then K (.inl (some (.int x1))) σ else PW d M_Text_firstLineEnd 2 [.ref x0, .int (x1 + 1)] [] σ K))))) : PW d M_Text_firstLineEnd 2 [.ref x0, .int x1] [] σ K := by
  refine pw_iload_n dc_Text_firstLineEnd_2 rfl ?_
  refine pw_aload_n dc_Text_firstLineEnd_3 rfl rfl ?_
  obtain ⟨hs1, h⟩ := h
  refine pw_getI (c := 3) (k := 1) (f := 193) dc_Text_firstLineEnd_4 fl_Text_15 rfl rfl hs1 ?_
  refine pw_icmp_ge (tgt := 29) dc_Text_firstLineEnd_7 (by decide) (fun hc => ?_) (fun hc => ?_)
  · have h := ite_t h hc
    refine pw_aload_n dc_Text_firstLineEnd_29 rfl rfl ?_
    refine pw_getI (c := 3) (k := 1) (f := 193) dc_Text_firstLineEnd_30 fl_Text_15 rfl rfl hs1 ?_
    exact pw_iret dc_Text_firstLineEnd_33 rfl rfl h
  · have h := ite_f h hc
    refine pw_aload_n dc_Text_firstLineEnd_10 rfl rfl ?_
    refine pw_getR (c := 3) (k := 0) (f := 192) dc_Text_firstLineEnd_11 fl_Text_9 rfl rfl hs1 ?_
    obtain ⟨b1, hb1, h⟩ := h
    refine PW.top (v' := .ref b1) (congrArg va_rf hb1) ?_
    refine pw_iload_n dc_Text_firstLineEnd_14 rfl ?_
    obtain ⟨n1, hs2, h⟩ := h
    obtain ⟨hi1, h⟩ := h
    refine pw_cald dc_Text_firstLineEnd_15 hs2 hi1 ?_
    refine pw_bipush (v := 10) dc_Text_firstLineEnd_16 (by decide) ?_
    refine pw_icmp_ne (tgt := 23) dc_Text_firstLineEnd_18 (by decide) (fun hc => ?_) (fun hc => ?_)
    · have h := ite_f h hc
      refine pw_iincv (v := 1) dc_Text_firstLineEnd_23 (by decide) rfl (by decide) ?_
      refine pw_goto (tgt := 2) dc_Text_firstLineEnd_26 (by decide) ?_
      exact h
    · have h := ite_t h hc
      refine pw_iload_n dc_Text_firstLineEnd_21 rfl ?_
      exact pw_iret dc_Text_firstLineEnd_22 rfl rfl h
