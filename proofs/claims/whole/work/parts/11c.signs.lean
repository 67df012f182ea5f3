theorem dc_Signs_characterOf_0 : decode M_Signs_characterOf.2.1 0 = .ok (.iload_n 0, 1) := by decide +kernel
theorem dc_Signs_characterOf_1 : decode M_Signs_characterOf.2.1 1 = .ok (.bipush 26, 2) := by decide +kernel
theorem dc_Signs_characterOf_3 : decode M_Signs_characterOf.2.1 3 = .ok (.if_icmp .ne 6, 3) := by decide +kernel
theorem dc_Signs_characterOf_6 : decode M_Signs_characterOf.2.1 6 = .ok (.bipush 32, 2) := by decide +kernel
theorem dc_Signs_characterOf_8 : decode M_Signs_characterOf.2.1 8 = .ok (.ireturn, 1) := by decide +kernel
theorem dc_Signs_characterOf_9 : decode M_Signs_characterOf.2.1 9 = .ok (.iload_n 0, 1) := by decide +kernel
theorem dc_Signs_characterOf_10 : decode M_Signs_characterOf.2.1 10 = .ok (.bipush 27, 2) := by decide +kernel
theorem dc_Signs_characterOf_12 : decode M_Signs_characterOf.2.1 12 = .ok (.if_icmp .ne 6, 3) := by decide +kernel
theorem dc_Signs_characterOf_15 : decode M_Signs_characterOf.2.1 15 = .ok (.bipush 10, 2) := by decide +kernel
theorem dc_Signs_characterOf_17 : decode M_Signs_characterOf.2.1 17 = .ok (.ireturn, 1) := by decide +kernel
theorem dc_Signs_characterOf_18 : decode M_Signs_characterOf.2.1 18 = .ok (.iload_n 0, 1) := by decide +kernel
theorem dc_Signs_characterOf_19 : decode M_Signs_characterOf.2.1 19 = .ok (.ifCond .lt 21, 3) := by decide +kernel
theorem dc_Signs_characterOf_22 : decode M_Signs_characterOf.2.1 22 = .ok (.iload_n 0, 1) := by decide +kernel
theorem dc_Signs_characterOf_23 : decode M_Signs_characterOf.2.1 23 = .ok (.iload_n 1, 1) := by decide +kernel
theorem dc_Signs_characterOf_24 : decode M_Signs_characterOf.2.1 24 = .ok (.ifCond .eq 11, 3) := by decide +kernel
theorem dc_Signs_characterOf_27 : decode M_Signs_characterOf.2.1 27 = .ok (.ldc 9, 2) := by decide +kernel
theorem dc_Signs_characterOf_29 : decode M_Signs_characterOf.2.1 29 = .ok (.invokevirtual 11, 3) := by decide +kernel
theorem dc_Signs_characterOf_32 : decode M_Signs_characterOf.2.1 32 = .ok (.goto 5, 3) := by decide +kernel
theorem dc_Signs_characterOf_35 : decode M_Signs_characterOf.2.1 35 = .ok (.bipush 26, 2) := by decide +kernel
theorem dc_Signs_characterOf_37 : decode M_Signs_characterOf.2.1 37 = .ok (.if_icmp .lt 5, 3) := by decide +kernel
theorem dc_Signs_characterOf_40 : decode M_Signs_characterOf.2.1 40 = .ok (.iconst 0, 1) := by decide +kernel
theorem dc_Signs_characterOf_41 : decode M_Signs_characterOf.2.1 41 = .ok (.ireturn, 1) := by decide +kernel
theorem dc_Signs_characterOf_42 : decode M_Signs_characterOf.2.1 42 = .ok (.iload_n 1, 1) := by decide +kernel
theorem dc_Signs_characterOf_43 : decode M_Signs_characterOf.2.1 43 = .ok (.ifCond .eq 12, 3) := by decide +kernel
theorem dc_Signs_characterOf_46 : decode M_Signs_characterOf.2.1 46 = .ok (.ldc 9, 2) := by decide +kernel
theorem dc_Signs_characterOf_48 : decode M_Signs_characterOf.2.1 48 = .ok (.iload_n 0, 1) := by decide +kernel
theorem dc_Signs_characterOf_49 : decode M_Signs_characterOf.2.1 49 = .ok (.invokevirtual 17, 3) := by decide +kernel
theorem dc_Signs_characterOf_52 : decode M_Signs_characterOf.2.1 52 = .ok (.goto 8, 3) := by decide +kernel
theorem dc_Signs_characterOf_55 : decode M_Signs_characterOf.2.1 55 = .ok (.bipush 65, 2) := by decide +kernel
theorem dc_Signs_characterOf_57 : decode M_Signs_characterOf.2.1 57 = .ok (.iload_n 0, 1) := by decide +kernel
theorem dc_Signs_characterOf_58 : decode M_Signs_characterOf.2.1 58 = .ok (.iadd, 1) := by decide +kernel
theorem dc_Signs_characterOf_59 : decode M_Signs_characterOf.2.1 59 = .ok (.i2c, 1) := by decide +kernel
theorem dc_Signs_characterOf_60 : decode M_Signs_characterOf.2.1 60 = .ok (.ireturn, 1) := by decide +kernel
set_option maxRecDepth 20000 in
theorem e_Signs_characterOf_0 {d : Nat} {σ : PH} {K : PO → PH → Prop} (x0 : Int32) (x1 : Int32) (h : (if x0 = 26 then ch 32 ∧ K (.inl (some (.int 32))) σ else (if x0 = 27 then ch 10 ∧ K (.inl (some (.int 10))) σ else (if x0 < 0 then ch 0 ∧ K (.inl (some (.int 0))) σ else (if x1 = 0 then PW (d + 1) M_Signs_characterOf 37 [.int x0, .int x1] [.int 26, .int x0] σ K else (∀ a1 v1 : Nat, sh σ a1 = (0, 1) → gR σ 9000 a1 = some v1 → sh σ v1 = (11, 21) → (∀ j, j < 21 → eI σ v1 j = figB j) → PW d M_Str_length 0 [.ref a1] [] σ (kI (fun r1 σ1 => PW (d + 1) M_Signs_characterOf 37 [.int x0, .int x1] [.int r1, .int x0] σ1 K) K))))))) : PW (d + 1) M_Signs_characterOf 0 [.int x0, .int x1] [] σ K := by
  refine pw_iload_n dc_Signs_characterOf_0 rfl ?_
  refine pw_bipush (v := 26) dc_Signs_characterOf_1 (by decide) ?_
  refine pw_icmp_ne (tgt := 9) dc_Signs_characterOf_3 (by decide) (fun hc => ?_) (fun hc => ?_)
  · have h := ite_f h hc
    refine pw_iload_n dc_Signs_characterOf_9 rfl ?_
    refine pw_bipush (v := 27) dc_Signs_characterOf_10 (by decide) ?_
    refine pw_icmp_ne (tgt := 18) dc_Signs_characterOf_12 (by decide) (fun hc => ?_) (fun hc => ?_)
    · have h := ite_f h hc
      refine pw_iload_n dc_Signs_characterOf_18 rfl ?_
      refine pw_if_lt (tgt := 40) dc_Signs_characterOf_19 (by decide) (fun hc => ?_) (fun hc => ?_)
      · have h := ite_t h hc
        refine pw_iconst (v := 0) dc_Signs_characterOf_40 (by decide) ?_
        exact pw_iret dc_Signs_characterOf_41 rfl h.1 h.2
      · have h := ite_f h hc
        refine pw_iload_n dc_Signs_characterOf_22 rfl ?_
        refine pw_iload_n dc_Signs_characterOf_23 rfl ?_
        refine pw_if_eq (tgt := 35) dc_Signs_characterOf_24 (by decide) (fun hc => ?_) (fun hc => ?_)
        · have h := ite_t h hc
          refine pw_bipush (v := 26) dc_Signs_characterOf_35 (by decide) ?_
          exact h
        · have h := ite_f h hc
          refine pw_ldcT dc_Signs_characterOf_27 rfl (fun a1 v1 ht1 ht2 ht3 ht4 => ?_)
          have h := h a1 v1 ht1 ht2 ht3 ht4
          refine pw_callVS (vs := []) (st := [.int x0]) (b := a1) dc_Signs_characterOf_29 cq_Str_length (List.mem_of_getElem? (i := 475) (by decide +kernel)) (List.mem_of_getElem? (i := 476) (by decide +kernel)) (List.mem_of_getElem? (i := 474) (by decide +kernel)) rfl ht1 rfl rfl (by decide) (cat_nil) (Nat.le_of_ble_eq_true rfl) (PW.mono (kI_kN (fun r1 σ1 h => ?_)) h)
          refine pw_goto (tgt := 37) dc_Signs_characterOf_32 (by decide) ?_
          exact h
    · have h := ite_t h hc
      refine pw_bipush (v := 10) dc_Signs_characterOf_15 (by decide) ?_
      exact pw_iret dc_Signs_characterOf_17 rfl h.1 h.2
  · have h := ite_t h hc
    refine pw_bipush (v := 32) dc_Signs_characterOf_6 (by decide) ?_
    exact pw_iret dc_Signs_characterOf_8 rfl h.1 h.2
set_option maxRecDepth 20000 in
theorem e_Signs_characterOf_37 {d : Nat} {σ : PH} {K : PO → PH → Prop} (x0 : Int32) (x1 : Int32) (y0 : Int32) (y1 : Int32) (h : (if y1 < y0 then (if x1 = 0 then ch (((65 + x0).toUInt32 % 65536).toInt32) ∧ K (.inl (some (.int (((65 + x0).toUInt32 % 65536).toInt32)))) σ else (∀ a1 v1 : Nat, sh σ a1 = (0, 1) → gR σ 9000 a1 = some v1 → sh σ v1 = (11, 21) → (∀ j, j < 21 → eI σ v1 j = figB j) → PW d M_Str_charAt 0 [.ref a1, .int x0] [] σ (kI (fun r1 σ1 => ch r1 ∧ K (.inl (some (.int r1))) σ1) K))) else ch 0 ∧ K (.inl (some (.int 0))) σ)) : PW (d + 1) M_Signs_characterOf 37 [.int x0, .int x1] [.int y0, .int y1] σ K := by
  refine pw_icmp_lt (tgt := 42) dc_Signs_characterOf_37 (by decide) (fun hc => ?_) (fun hc => ?_)
  · have h := ite_t h hc
    refine pw_iload_n dc_Signs_characterOf_42 rfl ?_
    refine pw_if_eq (tgt := 55) dc_Signs_characterOf_43 (by decide) (fun hc => ?_) (fun hc => ?_)
    · have h := ite_t h hc
      refine pw_bipush (v := 65) dc_Signs_characterOf_55 (by decide) ?_
      refine pw_iload_n dc_Signs_characterOf_57 rfl ?_
      refine pw_iadd dc_Signs_characterOf_58 ?_
      refine pw_i2c dc_Signs_characterOf_59 ?_
      exact pw_iret dc_Signs_characterOf_60 rfl h.1 h.2
    · have h := ite_f h hc
      refine pw_ldcT dc_Signs_characterOf_46 rfl (fun a1 v1 ht1 ht2 ht3 ht4 => ?_)
      have h := h a1 v1 ht1 ht2 ht3 ht4
      refine pw_iload_n dc_Signs_characterOf_48 rfl ?_
      refine pw_callVS (vs := [.int x0]) (st := []) (b := a1) dc_Signs_characterOf_49 cq_Str_charAt (List.mem_of_getElem? (i := 485) (by decide +kernel)) (List.mem_of_getElem? (i := 486) (by decide +kernel)) (List.mem_of_getElem? (i := 484) (by decide +kernel)) rfl ht1 rfl rfl (by decide) (cat_cons rfl (cat_nil)) (Nat.le_of_ble_eq_true rfl) (PW.mono (kI_kN (fun r1 σ1 h => ?_)) h)
      refine pw_goto (tgt := 60) dc_Signs_characterOf_52 (by decide) ?_
      exact pw_iret dc_Signs_characterOf_60 rfl h.1 h.2
  · have h := ite_f h hc
    refine pw_iconst (v := 0) dc_Signs_characterOf_40 (by decide) ?_
    exact pw_iret dc_Signs_characterOf_41 rfl h.1 h.2
theorem dc_Signs_signOf_0 : decode M_Signs_signOf.2.1 0 = .ok (.iload_n 0, 1) := by decide +kernel
theorem dc_Signs_signOf_1 : decode M_Signs_signOf.2.1 1 = .ok (.bipush 32, 2) := by decide +kernel
theorem dc_Signs_signOf_3 : decode M_Signs_signOf.2.1 3 = .ok (.if_icmp .ne 6, 3) := by decide +kernel
theorem dc_Signs_signOf_6 : decode M_Signs_signOf.2.1 6 = .ok (.bipush 26, 2) := by decide +kernel
theorem dc_Signs_signOf_8 : decode M_Signs_signOf.2.1 8 = .ok (.ireturn, 1) := by decide +kernel
theorem dc_Signs_signOf_9 : decode M_Signs_signOf.2.1 9 = .ok (.iload_n 0, 1) := by decide +kernel
theorem dc_Signs_signOf_10 : decode M_Signs_signOf.2.1 10 = .ok (.bipush 10, 2) := by decide +kernel
theorem dc_Signs_signOf_12 : decode M_Signs_signOf.2.1 12 = .ok (.if_icmp .ne 6, 3) := by decide +kernel
theorem dc_Signs_signOf_15 : decode M_Signs_signOf.2.1 15 = .ok (.bipush 27, 2) := by decide +kernel
theorem dc_Signs_signOf_17 : decode M_Signs_signOf.2.1 17 = .ok (.ireturn, 1) := by decide +kernel
theorem dc_Signs_signOf_18 : decode M_Signs_signOf.2.1 18 = .ok (.iload_n 0, 1) := by decide +kernel
theorem dc_Signs_signOf_19 : decode M_Signs_signOf.2.1 19 = .ok (.invokestatic 21, 3) := by decide +kernel
theorem dc_Signs_signOf_22 : decode M_Signs_signOf.2.1 22 = .ok (.ifCond .eq 10, 3) := by decide +kernel
theorem dc_Signs_signOf_25 : decode M_Signs_signOf.2.1 25 = .ok (.iload_n 0, 1) := by decide +kernel
theorem dc_Signs_signOf_26 : decode M_Signs_signOf.2.1 26 = .ok (.bipush 65, 2) := by decide +kernel
theorem dc_Signs_signOf_28 : decode M_Signs_signOf.2.1 28 = .ok (.isub, 1) := by decide +kernel
theorem dc_Signs_signOf_29 : decode M_Signs_signOf.2.1 29 = .ok (.goto 9, 3) := by decide +kernel
theorem dc_Signs_signOf_32 : decode M_Signs_signOf.2.1 32 = .ok (.ldc 9, 2) := by decide +kernel
theorem dc_Signs_signOf_34 : decode M_Signs_signOf.2.1 34 = .ok (.iload_n 0, 1) := by decide +kernel
theorem dc_Signs_signOf_35 : decode M_Signs_signOf.2.1 35 = .ok (.invokevirtual 27, 3) := by decide +kernel
theorem dc_Signs_signOf_38 : decode M_Signs_signOf.2.1 38 = .ok (.ireturn, 1) := by decide +kernel
set_option maxRecDepth 20000 in
theorem e_Signs_signOf_0 {d : Nat} {σ : PH} {K : PO → PH → Prop} (x0 : Int32) (h : (if x0 = 32 then K (.inl (some (.int 26))) σ else (if x0 = 10 then K (.inl (some (.int 27))) σ else PW d M_Signs_isLetter 0 [.int x0] [] σ (kI (fun r1 σ1 => (if r1 = 0 then (∀ a1 v1 : Nat, sh σ1 a1 = (0, 1) → gR σ1 9000 a1 = some v1 → sh σ1 v1 = (11, 21) → (∀ j, j < 21 → eI σ1 v1 j = figB j) → PW d M_Str_indexOf1 0 [.ref a1, .int x0] [] σ1 (kI (fun r2 σ2 => K (.inl (some (.int r2))) σ2) K)) else K (.inl (some (.int (x0 - 65)))) σ1)) K)))) : PW (d + 1) M_Signs_signOf 0 [.int x0] [] σ K := by
  refine pw_iload_n dc_Signs_signOf_0 rfl ?_
  refine pw_bipush (v := 32) dc_Signs_signOf_1 (by decide) ?_
  refine pw_icmp_ne (tgt := 9) dc_Signs_signOf_3 (by decide) (fun hc => ?_) (fun hc => ?_)
  · have h := ite_f h hc
    refine pw_iload_n dc_Signs_signOf_9 rfl ?_
    refine pw_bipush (v := 10) dc_Signs_signOf_10 (by decide) ?_
    refine pw_icmp_ne (tgt := 18) dc_Signs_signOf_12 (by decide) (fun hc => ?_) (fun hc => ?_)
    · have h := ite_f h hc
      refine pw_iload_n dc_Signs_signOf_18 rfl ?_
      refine pw_callS (vs := [.int x0]) (st := []) dc_Signs_signOf_19 cq_Signs_isLetter (List.mem_of_getElem? (i := 590) (by decide +kernel)) (List.mem_of_getElem? (i := 837) (by decide +kernel)) rfl rfl (cat_cons rfl (cat_nil)) (Nat.le_of_ble_eq_true rfl) (PW.mono (kI_kN (fun r1 σ1 h => ?_)) h)
      refine pw_if_eq (tgt := 32) dc_Signs_signOf_22 (by decide) (fun hc => ?_) (fun hc => ?_)
      · have h := ite_t h hc
        refine pw_ldcT dc_Signs_signOf_32 rfl (fun a1 v1 ht1 ht2 ht3 ht4 => ?_)
        have h := h a1 v1 ht1 ht2 ht3 ht4
        refine pw_iload_n dc_Signs_signOf_34 rfl ?_
        refine pw_callVS (vs := [.int x0]) (st := []) (b := a1) dc_Signs_signOf_35 cq_Str_indexOf1 (List.mem_of_getElem? (i := 839) (by decide +kernel)) (List.mem_of_getElem? (i := 840) (by decide +kernel)) (List.mem_of_getElem? (i := 838) (by decide +kernel)) rfl ht1 rfl rfl (by decide) (cat_cons rfl (cat_nil)) (Nat.le_of_ble_eq_true rfl) (PW.mono (kI_kN (fun r2 σ2 h => ?_)) h)
        exact pw_iret dc_Signs_signOf_38 rfl rfl h
      · have h := ite_f h hc
        refine pw_iload_n dc_Signs_signOf_25 rfl ?_
        refine pw_bipush (v := 65) dc_Signs_signOf_26 (by decide) ?_
        refine pw_isub dc_Signs_signOf_28 ?_
        refine pw_goto (tgt := 38) dc_Signs_signOf_29 (by decide) ?_
        exact pw_iret dc_Signs_signOf_38 rfl rfl h
    · have h := ite_t h hc
      refine pw_bipush (v := 27) dc_Signs_signOf_15 (by decide) ?_
      exact pw_iret dc_Signs_signOf_17 rfl rfl h
  · have h := ite_t h hc
    refine pw_bipush (v := 26) dc_Signs_signOf_6 (by decide) ?_
    exact pw_iret dc_Signs_signOf_8 rfl rfl h
theorem dc_Signs_isLetter_0 : decode M_Signs_isLetter.2.1 0 = .ok (.iload_n 0, 1) := by decide +kernel
theorem dc_Signs_isLetter_1 : decode M_Signs_isLetter.2.1 1 = .ok (.bipush 65, 2) := by decide +kernel
theorem dc_Signs_isLetter_3 : decode M_Signs_isLetter.2.1 3 = .ok (.if_icmp .lt 13, 3) := by decide +kernel
theorem dc_Signs_isLetter_6 : decode M_Signs_isLetter.2.1 6 = .ok (.iload_n 0, 1) := by decide +kernel
theorem dc_Signs_isLetter_7 : decode M_Signs_isLetter.2.1 7 = .ok (.bipush 90, 2) := by decide +kernel
theorem dc_Signs_isLetter_9 : decode M_Signs_isLetter.2.1 9 = .ok (.if_icmp .gt 7, 3) := by decide +kernel
theorem dc_Signs_isLetter_12 : decode M_Signs_isLetter.2.1 12 = .ok (.iconst 1, 1) := by decide +kernel
theorem dc_Signs_isLetter_13 : decode M_Signs_isLetter.2.1 13 = .ok (.goto 4, 3) := by decide +kernel
theorem dc_Signs_isLetter_16 : decode M_Signs_isLetter.2.1 16 = .ok (.iconst 0, 1) := by decide +kernel
theorem dc_Signs_isLetter_17 : decode M_Signs_isLetter.2.1 17 = .ok (.ireturn, 1) := by decide +kernel
set_option maxRecDepth 20000 in
theorem e_Signs_isLetter_0 {d : Nat} {σ : PH} {K : PO → PH → Prop} (x0 : Int32) (h : (if x0 < 65 then K (.inl (some (.int 0))) σ else (if 90 < x0 then K (.inl (some (.int 0))) σ else K (.inl (some (.int 1))) σ))) : PW d M_Signs_isLetter 0 [.int x0] [] σ K := by
  refine pw_iload_n dc_Signs_isLetter_0 rfl ?_
  refine pw_bipush (v := 65) dc_Signs_isLetter_1 (by decide) ?_
  refine pw_icmp_lt (tgt := 16) dc_Signs_isLetter_3 (by decide) (fun hc => ?_) (fun hc => ?_)
  · have h := ite_t h hc
    refine pw_iconst (v := 0) dc_Signs_isLetter_16 (by decide) ?_
    exact pw_iret dc_Signs_isLetter_17 rfl (bo_nar (Or.inl rfl)) h
  · have h := ite_f h hc
    refine pw_iload_n dc_Signs_isLetter_6 rfl ?_
    refine pw_bipush (v := 90) dc_Signs_isLetter_7 (by decide) ?_
    refine pw_icmp_gt (tgt := 16) dc_Signs_isLetter_9 (by decide) (fun hc => ?_) (fun hc => ?_)
    · have h := ite_t h hc
      refine pw_iconst (v := 0) dc_Signs_isLetter_16 (by decide) ?_
      exact pw_iret dc_Signs_isLetter_17 rfl (bo_nar (Or.inl rfl)) h
    · have h := ite_f h hc
      refine pw_iconst (v := 1) dc_Signs_isLetter_12 (by decide) ?_
      refine pw_goto (tgt := 17) dc_Signs_isLetter_13 (by decide) ?_
      exact pw_iret dc_Signs_isLetter_17 rfl (bo_nar (Or.inr rfl)) h
theorem dc_Signs_isDigit_0 : decode M_Signs_isDigit.2.1 0 = .ok (.iload_n 0, 1) := by decide +kernel
theorem dc_Signs_isDigit_1 : decode M_Signs_isDigit.2.1 1 = .ok (.bipush 48, 2) := by decide +kernel
theorem dc_Signs_isDigit_3 : decode M_Signs_isDigit.2.1 3 = .ok (.if_icmp .lt 13, 3) := by decide +kernel
theorem dc_Signs_isDigit_6 : decode M_Signs_isDigit.2.1 6 = .ok (.iload_n 0, 1) := by decide +kernel
theorem dc_Signs_isDigit_7 : decode M_Signs_isDigit.2.1 7 = .ok (.bipush 57, 2) := by decide +kernel
theorem dc_Signs_isDigit_9 : decode M_Signs_isDigit.2.1 9 = .ok (.if_icmp .gt 7, 3) := by decide +kernel
theorem dc_Signs_isDigit_12 : decode M_Signs_isDigit.2.1 12 = .ok (.iconst 1, 1) := by decide +kernel
theorem dc_Signs_isDigit_13 : decode M_Signs_isDigit.2.1 13 = .ok (.goto 4, 3) := by decide +kernel
theorem dc_Signs_isDigit_16 : decode M_Signs_isDigit.2.1 16 = .ok (.iconst 0, 1) := by decide +kernel
theorem dc_Signs_isDigit_17 : decode M_Signs_isDigit.2.1 17 = .ok (.ireturn, 1) := by decide +kernel
set_option maxRecDepth 20000 in
theorem e_Signs_isDigit_0 {d : Nat} {σ : PH} {K : PO → PH → Prop} (x0 : Int32) (h : (if x0 < 48 then K (.inl (some (.int 0))) σ else (if 57 < x0 then K (.inl (some (.int 0))) σ else K (.inl (some (.int 1))) σ))) : PW d M_Signs_isDigit 0 [.int x0] [] σ K := by
  refine pw_iload_n dc_Signs_isDigit_0 rfl ?_
  refine pw_bipush (v := 48) dc_Signs_isDigit_1 (by decide) ?_
  refine pw_icmp_lt (tgt := 16) dc_Signs_isDigit_3 (by decide) (fun hc => ?_) (fun hc => ?_)
  · have h := ite_t h hc
    refine pw_iconst (v := 0) dc_Signs_isDigit_16 (by decide) ?_
    exact pw_iret dc_Signs_isDigit_17 rfl (bo_nar (Or.inl rfl)) h
  · have h := ite_f h hc
    refine pw_iload_n dc_Signs_isDigit_6 rfl ?_
    refine pw_bipush (v := 57) dc_Signs_isDigit_7 (by decide) ?_
    refine pw_icmp_gt (tgt := 16) dc_Signs_isDigit_9 (by decide) (fun hc => ?_) (fun hc => ?_)
    · have h := ite_t h hc
      refine pw_iconst (v := 0) dc_Signs_isDigit_16 (by decide) ?_
      exact pw_iret dc_Signs_isDigit_17 rfl (bo_nar (Or.inl rfl)) h
    · have h := ite_f h hc
      refine pw_iconst (v := 1) dc_Signs_isDigit_12 (by decide) ?_
      refine pw_goto (tgt := 17) dc_Signs_isDigit_13 (by decide) ?_
      exact pw_iret dc_Signs_isDigit_17 rfl (bo_nar (Or.inr rfl)) h
theorem dc_Signs_isInBothShifts_0 : decode M_Signs_isInBothShifts.2.1 0 = .ok (.iload_n 0, 1) := by decide +kernel
theorem dc_Signs_isInBothShifts_1 : decode M_Signs_isInBothShifts.2.1 1 = .ok (.bipush 32, 2) := by decide +kernel
theorem dc_Signs_isInBothShifts_3 : decode M_Signs_isInBothShifts.2.1 3 = .ok (.if_icmp .eq 9, 3) := by decide +kernel
theorem dc_Signs_isInBothShifts_6 : decode M_Signs_isInBothShifts.2.1 6 = .ok (.iload_n 0, 1) := by decide +kernel
theorem dc_Signs_isInBothShifts_7 : decode M_Signs_isInBothShifts.2.1 7 = .ok (.bipush 10, 2) := by decide +kernel
theorem dc_Signs_isInBothShifts_9 : decode M_Signs_isInBothShifts.2.1 9 = .ok (.if_icmp .ne 7, 3) := by decide +kernel
theorem dc_Signs_isInBothShifts_12 : decode M_Signs_isInBothShifts.2.1 12 = .ok (.iconst 1, 1) := by decide +kernel
theorem dc_Signs_isInBothShifts_13 : decode M_Signs_isInBothShifts.2.1 13 = .ok (.goto 4, 3) := by decide +kernel
theorem dc_Signs_isInBothShifts_16 : decode M_Signs_isInBothShifts.2.1 16 = .ok (.iconst 0, 1) := by decide +kernel
theorem dc_Signs_isInBothShifts_17 : decode M_Signs_isInBothShifts.2.1 17 = .ok (.ireturn, 1) := by decide +kernel
set_option maxRecDepth 20000 in
theorem e_Signs_isInBothShifts_0 {d : Nat} {σ : PH} {K : PO → PH → Prop} (x0 : Int32) (h : (if x0 = 32 then K (.inl (some (.int 1))) σ else (if x0 = 10 then K (.inl (some (.int 1))) σ else K (.inl (some (.int 0))) σ))) : PW d M_Signs_isInBothShifts 0 [.int x0] [] σ K := by
  refine pw_iload_n dc_Signs_isInBothShifts_0 rfl ?_
  refine pw_bipush (v := 32) dc_Signs_isInBothShifts_1 (by decide) ?_
  refine pw_icmp_eq (tgt := 12) dc_Signs_isInBothShifts_3 (by decide) (fun hc => ?_) (fun hc => ?_)
  · have h := ite_t h hc
    refine pw_iconst (v := 1) dc_Signs_isInBothShifts_12 (by decide) ?_
    refine pw_goto (tgt := 17) dc_Signs_isInBothShifts_13 (by decide) ?_
    exact pw_iret dc_Signs_isInBothShifts_17 rfl (bo_nar (Or.inr rfl)) h
  · have h := ite_f h hc
    refine pw_iload_n dc_Signs_isInBothShifts_6 rfl ?_
    refine pw_bipush (v := 10) dc_Signs_isInBothShifts_7 (by decide) ?_
    refine pw_icmp_ne (tgt := 16) dc_Signs_isInBothShifts_9 (by decide) (fun hc => ?_) (fun hc => ?_)
    · have h := ite_f h hc
      refine pw_iconst (v := 0) dc_Signs_isInBothShifts_16 (by decide) ?_
      exact pw_iret dc_Signs_isInBothShifts_17 rfl (bo_nar (Or.inl rfl)) h
    · have h := ite_t h hc
      refine pw_iconst (v := 1) dc_Signs_isInBothShifts_12 (by decide) ?_
      refine pw_goto (tgt := 17) dc_Signs_isInBothShifts_13 (by decide) ?_
      exact pw_iret dc_Signs_isInBothShifts_17 rfl (bo_nar (Or.inr rfl)) h
