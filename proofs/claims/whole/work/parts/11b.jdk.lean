theorem st_compact : ∀ (b : Nat) (s0 : State), (Jvm.Cond.and given_1 narrow_1).before #[Value.ref b] s0 = true → (Term.static "java/lang/String" "COMPACT_STRINGS" "Z").eval #[Value.ref b] s0 none [] s0 = some (.int 1) := fun b s0 h => va_eqi (flat_of_before _ h _ (by decide +kernel))
theorem st_fmt : Cond.isRef (.static "jdk/internal/util/Preconditions" "SIOOBE_FORMATTER" "Ljava/util/function/BiFunction;") ∈ flatC (Jvm.Cond.and given_1 narrow_1) := by decide +kernel
def M_Str_length : MI := (⟨"java/lang/String", "length", "()I"⟩, prog_21_method_54_code, 1, (some .int), [])
theorem cq_Str_length : CQ M_Str_length 0 := ⟨Or.inl ⟨List.mem_of_getElem? (i := 477) (by decide +kernel), rfl⟩, List.mem_of_getElem? (i := 78) (by decide +kernel), ⟨by decide +kernel, by decide +kernel⟩, by decide +kernel, by decide +kernel, by decide, by decide⟩
def M_Str_coder : MI := (⟨"java/lang/String", "coder", "()B"⟩, prog_21_method_152_code, 1, (some .byte), [])
theorem cq_Str_coder : CQ M_Str_coder 0 := ⟨Or.inl ⟨List.mem_of_getElem? (i := 481) (by decide +kernel), rfl⟩, List.mem_of_getElem? (i := 78) (by decide +kernel), ⟨by decide +kernel, by decide +kernel⟩, by decide +kernel, by decide +kernel, by decide, by decide⟩
def M_Str_charAt : MI := (⟨"java/lang/String", "charAt", "(I)C"⟩, prog_21_method_56_code, 2, (some .char), [])
theorem cq_Str_charAt : CQ M_Str_charAt 1 := ⟨Or.inl ⟨List.mem_of_getElem? (i := 487) (by decide +kernel), rfl⟩, List.mem_of_getElem? (i := 78) (by decide +kernel), ⟨by decide +kernel, by decide +kernel⟩, by decide +kernel, by decide +kernel, by decide, by decide⟩
def M_Str_isLatin1 : MI := (⟨"java/lang/String", "isLatin1", "()Z"⟩, prog_21_method_154_code, 1, (some .boolean), [])
theorem cq_Str_isLatin1 : CQ M_Str_isLatin1 0 := ⟨Or.inl ⟨List.mem_of_getElem? (i := 491) (by decide +kernel), rfl⟩, List.mem_of_getElem? (i := 78) (by decide +kernel), ⟨by decide +kernel, by decide +kernel⟩, by decide +kernel, by decide +kernel, by decide, by decide⟩
def M_Lat_charAt : MI := (⟨"java/lang/StringLatin1", "charAt", "([BI)C"⟩, prog_22_method_2_code, 2, (some .char), [])
theorem cq_Lat_charAt : CQ M_Lat_charAt 2 := ⟨Or.inl ⟨List.mem_of_getElem? (i := 494) (by decide +kernel), rfl⟩, List.mem_of_getElem? (i := 79) (by decide +kernel), ⟨by decide +kernel, by decide +kernel⟩, by decide +kernel, by decide +kernel, by decide, by decide⟩
def M_Str_checkIndex : MI := (⟨"java/lang/String", "checkIndex", "(II)V"⟩, prog_21_method_155_code, 2, none, [])
theorem cq_Str_checkIndex : CQ M_Str_checkIndex 2 := ⟨Or.inl ⟨List.mem_of_getElem? (i := 497) (by decide +kernel), rfl⟩, List.mem_of_getElem? (i := 78) (by decide +kernel), ⟨by decide +kernel, by decide +kernel⟩, by decide +kernel, by decide +kernel, by decide, by decide⟩
def M_Pre_checkIndex : MI := (⟨"jdk/internal/util/Preconditions", "checkIndex", "(IILjava/util/function/BiFunction;)I"⟩, prog_25_method_11_code, 3, (some .int), [])
theorem cq_Pre_checkIndex : CQ M_Pre_checkIndex 3 := ⟨Or.inl ⟨List.mem_of_getElem? (i := 502) (by decide +kernel), rfl⟩, List.mem_of_getElem? (i := 80) (by decide +kernel), ⟨by decide +kernel, by decide +kernel⟩, by decide +kernel, by decide +kernel, by decide, by decide⟩
def M_Str_indexOf1 : MI := (⟨"java/lang/String", "indexOf", "(I)I"⟩, prog_21_method_79_code, 2, (some .int), [])
theorem cq_Str_indexOf1 : CQ M_Str_indexOf1 1 := ⟨Or.inl ⟨List.mem_of_getElem? (i := 841) (by decide +kernel), rfl⟩, List.mem_of_getElem? (i := 78) (by decide +kernel), ⟨by decide +kernel, by decide +kernel⟩, by decide +kernel, by decide +kernel, by decide, by decide⟩
def M_Str_indexOf2 : MI := (⟨"java/lang/String", "indexOf", "(II)I"⟩, prog_21_method_80_code, 3, (some .int), [])
theorem cq_Str_indexOf2 : CQ M_Str_indexOf2 2 := ⟨Or.inl ⟨List.mem_of_getElem? (i := 845) (by decide +kernel), rfl⟩, List.mem_of_getElem? (i := 78) (by decide +kernel), ⟨by decide +kernel, by decide +kernel⟩, by decide +kernel, by decide +kernel, by decide, by decide⟩
def M_Lat_indexOf : MI := (⟨"java/lang/StringLatin1", "indexOf", "([BIII)I"⟩, prog_22_method_22_code, 4, (some .int), [])
theorem cq_Lat_indexOf : CQ M_Lat_indexOf 4 := ⟨Or.inl ⟨List.mem_of_getElem? (i := 849) (by decide +kernel), rfl⟩, List.mem_of_getElem? (i := 79) (by decide +kernel), ⟨by decide +kernel, by decide +kernel⟩, by decide +kernel, by decide +kernel, by decide, by decide⟩
def M_Lat_canEncode : MI := (⟨"java/lang/StringLatin1", "canEncode", "(I)Z"⟩, prog_22_method_4_code, 1, (some .boolean), [])
theorem cq_Lat_canEncode : CQ M_Lat_canEncode 1 := ⟨Or.inl ⟨List.mem_of_getElem? (i := 852) (by decide +kernel), rfl⟩, List.mem_of_getElem? (i := 79) (by decide +kernel), ⟨by decide +kernel, by decide +kernel⟩, by decide +kernel, by decide +kernel, by decide, by decide⟩
def M_Lat_indexOfChar : MI := (⟨"java/lang/StringLatin1", "indexOfChar", "([BIII)I"⟩, prog_22_method_23_code, 6, (some .int), [])
theorem cq_Lat_indexOfChar : CQ M_Lat_indexOfChar 4 := ⟨Or.inl ⟨List.mem_of_getElem? (i := 857) (by decide +kernel), rfl⟩, List.mem_of_getElem? (i := 79) (by decide +kernel), ⟨by decide +kernel, by decide +kernel⟩, by decide +kernel, by decide +kernel, by decide, by decide⟩
theorem dc_Str_length_0 : decode M_Str_length.2.1 0 = .ok (.aload_n 0, 1) := by decide +kernel
theorem dc_Str_length_1 : decode M_Str_length.2.1 1 = .ok (.getfield 9, 3) := by decide +kernel
theorem dc_Str_length_4 : decode M_Str_length.2.1 4 = .ok (.arraylength, 1) := by decide +kernel
theorem dc_Str_length_5 : decode M_Str_length.2.1 5 = .ok (.aload_n 0, 1) := by decide +kernel
theorem dc_Str_length_6 : decode M_Str_length.2.1 6 = .ok (.invokevirtual 335, 3) := by decide +kernel
theorem dc_Str_length_9 : decode M_Str_length.2.1 9 = .ok (.ishr, 1) := by decide +kernel
theorem dc_Str_length_10 : decode M_Str_length.2.1 10 = .ok (.ireturn, 1) := by decide +kernel
set_option maxRecDepth 20000 in
theorem e_Str_length_0 {d : Nat} {σ : PH} {K : PO → PH → Prop} (x0 : Nat) (h : sh σ x0 = (0, 1) ∧ (∃ b1 : Nat, gR σ 9000 x0 = some b1 ∧ (∃ n1 : Nat, sh σ b1 = (11, n1) ∧ PW d M_Str_coder 0 [.ref x0] [] σ (kI (fun r1 σ1 => K (.inl (some (.int ((nI n1) >>> (r1 &&& 31))))) σ1) K)))) : PW (d + 1) M_Str_length 0 [.ref x0] [] σ K := by
  refine pw_aload_n dc_Str_length_0 rfl rfl ?_
  obtain ⟨hs1, h⟩ := h
  refine pw_sval dc_Str_length_1 (List.mem_of_getElem? (i := 1350) (by decide +kernel)) hs1 ?_
  obtain ⟨b1, hb1, h⟩ := h
  refine PW.top (v' := .ref b1) (congrArg va_rf hb1) ?_
  obtain ⟨n1, hs2, h⟩ := h
  refine pw_alen dc_Str_length_4 (by decide) hs2 ?_
  refine pw_aload_n dc_Str_length_5 rfl rfl ?_
  refine pw_callVS (vs := []) (st := [.int (nI n1)]) (b := x0) dc_Str_length_6 cq_Str_coder (List.mem_of_getElem? (i := 479) (by decide +kernel)) (List.mem_of_getElem? (i := 480) (by decide +kernel)) (List.mem_of_getElem? (i := 478) (by decide +kernel)) rfl hs1 rfl rfl (by decide) (cat_nil) (Nat.le_of_ble_eq_true rfl) (PW.mono (kI_kN (fun r1 σ1 h => ?_)) h)
  refine pw_ishr dc_Str_length_9 ?_
  exact pw_iret dc_Str_length_10 rfl rfl h
theorem dc_Str_coder_0 : decode M_Str_coder.2.1 0 = .ok (.getstatic 38, 3) := by decide +kernel
theorem dc_Str_coder_3 : decode M_Str_coder.2.1 3 = .ok (.ifCond .eq 10, 3) := by decide +kernel
theorem dc_Str_coder_6 : decode M_Str_coder.2.1 6 = .ok (.aload_n 0, 1) := by decide +kernel
theorem dc_Str_coder_7 : decode M_Str_coder.2.1 7 = .ok (.getfield 15, 3) := by decide +kernel
theorem dc_Str_coder_10 : decode M_Str_coder.2.1 10 = .ok (.goto 4, 3) := by decide +kernel
theorem dc_Str_coder_13 : decode M_Str_coder.2.1 13 = .ok (.iconst 1, 1) := by decide +kernel
theorem dc_Str_coder_14 : decode M_Str_coder.2.1 14 = .ok (.ireturn, 1) := by decide +kernel
set_option maxRecDepth 20000 in
theorem e_Str_coder_0 {d : Nat} {σ : PH} {K : PO → PH → Prop} (x0 : Nat) (h : (if (1 : Int32) = 0 then K (.inl (some (.int 1))) σ else sh σ x0 = (0, 1) ∧ K (.inl (some (.int 0))) σ)) : PW d M_Str_coder 0 [.ref x0] [] σ K := by
  refine pw_gets (v := .int 1) dc_Str_coder_0 (List.mem_of_getElem? (i := 483) (by decide +kernel)) (List.mem_of_getElem? (i := 78) (by decide +kernel)) (List.mem_of_getElem? (i := 482) (by decide +kernel)) st_compact ?_
  refine pw_if_eq (tgt := 13) dc_Str_coder_3 (by decide) (fun hc => ?_) (fun hc => ?_)
  · have h := ite_t h hc
    refine pw_iconst (v := 1) dc_Str_coder_13 (by decide) ?_
    exact pw_iret dc_Str_coder_14 rfl rfl h
  · have h := ite_f h hc
    refine pw_aload_n dc_Str_coder_6 rfl rfl ?_
    obtain ⟨hs1, h⟩ := h
    refine pw_scod dc_Str_coder_7 (List.mem_of_getElem? (i := 1351) (by decide +kernel)) hs1 ?_
    refine pw_goto (tgt := 14) dc_Str_coder_10 (by decide) ?_
    exact pw_iret dc_Str_coder_14 rfl rfl h
theorem dc_Str_charAt_0 : decode M_Str_charAt.2.1 0 = .ok (.aload_n 0, 1) := by decide +kernel
theorem dc_Str_charAt_1 : decode M_Str_charAt.2.1 1 = .ok (.invokevirtual 492, 3) := by decide +kernel
theorem dc_Str_charAt_4 : decode M_Str_charAt.2.1 4 = .ok (.ifCond .eq 12, 3) := by decide +kernel
theorem dc_Str_charAt_7 : decode M_Str_charAt.2.1 7 = .ok (.aload_n 0, 1) := by decide +kernel
theorem dc_Str_charAt_8 : decode M_Str_charAt.2.1 8 = .ok (.getfield 9, 3) := by decide +kernel
theorem dc_Str_charAt_11 : decode M_Str_charAt.2.1 11 = .ok (.iload_n 1, 1) := by decide +kernel
theorem dc_Str_charAt_12 : decode M_Str_charAt.2.1 12 = .ok (.invokestatic 495, 3) := by decide +kernel
theorem dc_Str_charAt_15 : decode M_Str_charAt.2.1 15 = .ok (.ireturn, 1) := by decide +kernel
set_option maxRecDepth 20000 in
theorem e_Str_charAt_0 {d : Nat} {σ : PH} {K : PO → PH → Prop} (x0 : Nat) (x1 : Int32) (h : sh σ x0 = (0, 1) ∧ PW d M_Str_isLatin1 0 [.ref x0] [] σ (kI (fun r1 σ1 => (if r1 = 0 then False else sh σ1 x0 = (0, 1) ∧ (∃ b1 : Nat, gR σ1 9000 x0 = some b1 ∧ PW d M_Lat_charAt 0 [.ref b1, .int x1] [] σ1 (kI (fun r2 σ2 => ch r2 ∧ K (.inl (some (.int r2))) σ2) K)))) K)) : PW (d + 1) M_Str_charAt 0 [.ref x0, .int x1] [] σ K := by
  refine pw_aload_n dc_Str_charAt_0 rfl rfl ?_
  obtain ⟨hs1, h⟩ := h
  refine pw_callVS (vs := []) (st := []) (b := x0) dc_Str_charAt_1 cq_Str_isLatin1 (List.mem_of_getElem? (i := 489) (by decide +kernel)) (List.mem_of_getElem? (i := 490) (by decide +kernel)) (List.mem_of_getElem? (i := 488) (by decide +kernel)) rfl hs1 rfl rfl (by decide) (cat_nil) (Nat.le_of_ble_eq_true rfl) (PW.mono (kI_kN (fun r1 σ1 h => ?_)) h)
  refine pw_if_eq (tgt := 16) dc_Str_charAt_4 (by decide) (fun hc => ?_) (fun hc => ?_)
  · have h := ite_t h hc
    exact h.elim
  · have h := ite_f h hc
    refine pw_aload_n dc_Str_charAt_7 rfl rfl ?_
    obtain ⟨hs2, h⟩ := h
    refine pw_sval dc_Str_charAt_8 (List.mem_of_getElem? (i := 1350) (by decide +kernel)) hs2 ?_
    obtain ⟨b1, hb1, h⟩ := h
    refine PW.top (v' := .ref b1) (congrArg va_rf hb1) ?_
    refine pw_iload_n dc_Str_charAt_11 rfl ?_
    refine pw_callS (vs := [.ref b1, .int x1]) (st := []) dc_Str_charAt_12 cq_Lat_charAt (List.mem_of_getElem? (i := 493) (by decide +kernel)) (List.mem_of_getElem? (i := 492) (by decide +kernel)) rfl rfl (cat_cons rfl (cat_cons rfl (cat_nil))) (Nat.le_of_ble_eq_true rfl) (PW.mono (kI_kN (fun r2 σ2 h => ?_)) h)
    exact pw_iret dc_Str_charAt_15 rfl h.1 h.2
theorem dc_Str_isLatin1_0 : decode M_Str_isLatin1.2.1 0 = .ok (.getstatic 38, 3) := by decide +kernel
theorem dc_Str_isLatin1_3 : decode M_Str_isLatin1.2.1 3 = .ok (.ifCond .eq 14, 3) := by decide +kernel
theorem dc_Str_isLatin1_6 : decode M_Str_isLatin1.2.1 6 = .ok (.aload_n 0, 1) := by decide +kernel
theorem dc_Str_isLatin1_7 : decode M_Str_isLatin1.2.1 7 = .ok (.getfield 15, 3) := by decide +kernel
theorem dc_Str_isLatin1_10 : decode M_Str_isLatin1.2.1 10 = .ok (.ifCond .ne 7, 3) := by decide +kernel
theorem dc_Str_isLatin1_13 : decode M_Str_isLatin1.2.1 13 = .ok (.iconst 1, 1) := by decide +kernel
theorem dc_Str_isLatin1_14 : decode M_Str_isLatin1.2.1 14 = .ok (.goto 4, 3) := by decide +kernel
theorem dc_Str_isLatin1_17 : decode M_Str_isLatin1.2.1 17 = .ok (.iconst 0, 1) := by decide +kernel
theorem dc_Str_isLatin1_18 : decode M_Str_isLatin1.2.1 18 = .ok (.ireturn, 1) := by decide +kernel
set_option maxRecDepth 20000 in
theorem e_Str_isLatin1_0 {d : Nat} {σ : PH} {K : PO → PH → Prop} (x0 : Nat) (h : (if (1 : Int32) = 0 then K (.inl (some (.int 0))) σ else sh σ x0 = (0, 1) ∧ (if (0 : Int32) = 0 then K (.inl (some (.int 1))) σ else K (.inl (some (.int 0))) σ))) : PW d M_Str_isLatin1 0 [.ref x0] [] σ K := by
  refine pw_gets (v := .int 1) dc_Str_isLatin1_0 (List.mem_of_getElem? (i := 483) (by decide +kernel)) (List.mem_of_getElem? (i := 78) (by decide +kernel)) (List.mem_of_getElem? (i := 482) (by decide +kernel)) st_compact ?_
  refine pw_if_eq (tgt := 17) dc_Str_isLatin1_3 (by decide) (fun hc => ?_) (fun hc => ?_)
  · have h := ite_t h hc
    refine pw_iconst (v := 0) dc_Str_isLatin1_17 (by decide) ?_
    exact pw_iret dc_Str_isLatin1_18 rfl (bo_nar (Or.inl rfl)) h
  · have h := ite_f h hc
    refine pw_aload_n dc_Str_isLatin1_6 rfl rfl ?_
    obtain ⟨hs1, h⟩ := h
    refine pw_scod dc_Str_isLatin1_7 (List.mem_of_getElem? (i := 1351) (by decide +kernel)) hs1 ?_
    refine pw_if_ne (tgt := 17) dc_Str_isLatin1_10 (by decide) (fun hc => ?_) (fun hc => ?_)
    · have h := ite_f h hc
      refine pw_iconst (v := 0) dc_Str_isLatin1_17 (by decide) ?_
      exact pw_iret dc_Str_isLatin1_18 rfl (bo_nar (Or.inl rfl)) h
    · have h := ite_t h hc
      refine pw_iconst (v := 1) dc_Str_isLatin1_13 (by decide) ?_
      refine pw_goto (tgt := 18) dc_Str_isLatin1_14 (by decide) ?_
      exact pw_iret dc_Str_isLatin1_18 rfl (bo_nar (Or.inr rfl)) h
theorem dc_Lat_charAt_0 : decode M_Lat_charAt.2.1 0 = .ok (.iload_n 1, 1) := by decide +kernel
theorem dc_Lat_charAt_1 : decode M_Lat_charAt.2.1 1 = .ok (.aload_n 0, 1) := by decide +kernel
theorem dc_Lat_charAt_2 : decode M_Lat_charAt.2.1 2 = .ok (.arraylength, 1) := by decide +kernel
theorem dc_Lat_charAt_3 : decode M_Lat_charAt.2.1 3 = .ok (.invokestatic 9, 3) := by decide +kernel
theorem dc_Lat_charAt_6 : decode M_Lat_charAt.2.1 6 = .ok (.aload_n 0, 1) := by decide +kernel
theorem dc_Lat_charAt_7 : decode M_Lat_charAt.2.1 7 = .ok (.iload_n 1, 1) := by decide +kernel
theorem dc_Lat_charAt_8 : decode M_Lat_charAt.2.1 8 = .ok (.baload, 1) := by decide +kernel
theorem dc_Lat_charAt_9 : decode M_Lat_charAt.2.1 9 = .ok (.sipush 255, 3) := by decide +kernel
theorem dc_Lat_charAt_12 : decode M_Lat_charAt.2.1 12 = .ok (.iand, 1) := by decide +kernel
theorem dc_Lat_charAt_13 : decode M_Lat_charAt.2.1 13 = .ok (.i2c, 1) := by decide +kernel
theorem dc_Lat_charAt_14 : decode M_Lat_charAt.2.1 14 = .ok (.ireturn, 1) := by decide +kernel
set_option maxRecDepth 20000 in
theorem e_Lat_charAt_0 {d : Nat} {σ : PH} {K : PO → PH → Prop} (x0 : Nat) (x1 : Int32) (h : (∃ n1 : Nat, sh σ x0 = (11, n1) ∧ PW d M_Str_checkIndex 0 [.int x1, .int (nI n1)] [] σ (kV (fun σ1 => (∃ n2 : Nat, sh σ1 x0 = (11, n2) ∧ vp_in x1 n2 ∧ ch ((((eI σ1 x0 (ix x1)) &&& 255).toUInt32 % 65536).toInt32) ∧ K (.inl (some (.int ((((eI σ1 x0 (ix x1)) &&& 255).toUInt32 % 65536).toInt32)))) σ1)) K))) : PW (d + 1) M_Lat_charAt 0 [.ref x0, .int x1] [] σ K := by
  refine pw_iload_n dc_Lat_charAt_0 rfl ?_
  refine pw_aload_n dc_Lat_charAt_1 rfl rfl ?_
  obtain ⟨n1, hs1, h⟩ := h
  refine pw_alen dc_Lat_charAt_2 (by decide) hs1 ?_
  refine pw_callS (vs := [.int x1, .int (nI n1)]) (st := []) dc_Lat_charAt_3 cq_Str_checkIndex (List.mem_of_getElem? (i := 496) (by decide +kernel)) (List.mem_of_getElem? (i := 495) (by decide +kernel)) rfl rfl (cat_cons rfl (cat_cons rfl (cat_nil))) (Nat.le_of_ble_eq_true rfl) (PW.mono (kV_kN (fun σ1 h => ?_)) h)
  refine pw_aload_n dc_Lat_charAt_6 rfl rfl ?_
  refine pw_iload_n dc_Lat_charAt_7 rfl ?_
  obtain ⟨n2, hs2, h⟩ := h
  obtain ⟨hi1, h⟩ := h
  refine pw_bald dc_Lat_charAt_8 hs2 hi1 ?_
  refine pw_sipush (v := 255) dc_Lat_charAt_9 (by decide) ?_
  refine pw_iand dc_Lat_charAt_12 ?_
  refine pw_i2c dc_Lat_charAt_13 ?_
  exact pw_iret dc_Lat_charAt_14 rfl h.1 h.2
theorem dc_Str_checkIndex_0 : decode M_Str_checkIndex.2.1 0 = .ok (.iload_n 0, 1) := by decide +kernel
theorem dc_Str_checkIndex_1 : decode M_Str_checkIndex.2.1 1 = .ok (.iload_n 1, 1) := by decide +kernel
theorem dc_Str_checkIndex_2 : decode M_Str_checkIndex.2.1 2 = .ok (.getstatic 1053, 3) := by decide +kernel
theorem dc_Str_checkIndex_5 : decode M_Str_checkIndex.2.1 5 = .ok (.invokestatic 1059, 3) := by decide +kernel
theorem dc_Str_checkIndex_8 : decode M_Str_checkIndex.2.1 8 = .ok (.pop, 1) := by decide +kernel
theorem dc_Str_checkIndex_9 : decode M_Str_checkIndex.2.1 9 = .ok (.return_, 1) := by decide +kernel
set_option maxRecDepth 20000 in
theorem e_Str_checkIndex_0 {d : Nat} {σ : PH} {K : PO → PH → Prop} (x0 : Int32) (x1 : Int32) (h : (∀ o1 : Option Nat, PW d M_Pre_checkIndex 0 [.int x0, .int x1, va_rf o1] [] σ (kI (fun r1 σ1 => K (.inl none) σ1) K))) : PW (d + 1) M_Str_checkIndex 0 [.int x0, .int x1] [] σ K := by
  refine pw_iload_n dc_Str_checkIndex_0 rfl ?_
  refine pw_iload_n dc_Str_checkIndex_1 rfl ?_
  refine pw_getsQ dc_Str_checkIndex_2 (List.mem_of_getElem? (i := 499) (by decide +kernel)) (List.mem_of_getElem? (i := 80) (by decide +kernel)) (List.mem_of_getElem? (i := 498) (by decide +kernel)) st_fmt (fun o1 => ?_)
  have h := h o1
  refine pw_callS (vs := [.int x0, .int x1, va_rf o1]) (st := []) dc_Str_checkIndex_5 cq_Pre_checkIndex (List.mem_of_getElem? (i := 501) (by decide +kernel)) (List.mem_of_getElem? (i := 500) (by decide +kernel)) rfl rfl (cat_cons rfl (cat_cons rfl (cat_cons (isRef_cat (va_rf_ref _)) (cat_nil)))) (Nat.le_of_ble_eq_true rfl) (PW.mono (kI_kN (fun r1 σ1 h => ?_)) h)
  refine pw_pop dc_Str_checkIndex_8 rfl ?_
  exact pw_vret dc_Str_checkIndex_9 rfl h
theorem dc_Pre_checkIndex_0 : decode M_Pre_checkIndex.2.1 0 = .ok (.iload_n 0, 1) := by decide +kernel
theorem dc_Pre_checkIndex_1 : decode M_Pre_checkIndex.2.1 1 = .ok (.ifCond .lt 8, 3) := by decide +kernel
theorem dc_Pre_checkIndex_4 : decode M_Pre_checkIndex.2.1 4 = .ok (.iload_n 0, 1) := by decide +kernel
theorem dc_Pre_checkIndex_5 : decode M_Pre_checkIndex.2.1 5 = .ok (.iload_n 1, 1) := by decide +kernel
theorem dc_Pre_checkIndex_6 : decode M_Pre_checkIndex.2.1 6 = .ok (.if_icmp .lt 10, 3) := by decide +kernel
theorem dc_Pre_checkIndex_16 : decode M_Pre_checkIndex.2.1 16 = .ok (.iload_n 0, 1) := by decide +kernel
theorem dc_Pre_checkIndex_17 : decode M_Pre_checkIndex.2.1 17 = .ok (.ireturn, 1) := by decide +kernel
set_option maxRecDepth 20000 in
theorem e_Pre_checkIndex_0 {d : Nat} {σ : PH} {K : PO → PH → Prop} (x0 : Int32) (x1 : Int32) (x2 : Option Nat) (h : (if x0 < 0 then False else (if x0 < x1 then K (.inl (some (.int x0))) σ else False))) : PW (d + 7) M_Pre_checkIndex 0 [.int x0, .int x1, va_rf x2] [] σ K := by
  refine pw_iload_n dc_Pre_checkIndex_0 rfl ?_
  refine pw_if_lt (tgt := 9) dc_Pre_checkIndex_1 (by decide) (fun hc => ?_) (fun hc => ?_)
  · have h := ite_t h hc
    exact h.elim
  · have h := ite_f h hc
    refine pw_iload_n dc_Pre_checkIndex_4 rfl ?_
    refine pw_iload_n dc_Pre_checkIndex_5 rfl ?_
    refine pw_icmp_lt (tgt := 16) dc_Pre_checkIndex_6 (by decide) (fun hc => ?_) (fun hc => ?_)
    · have h := ite_t h hc
      refine pw_iload_n dc_Pre_checkIndex_16 rfl ?_
      exact pw_iret dc_Pre_checkIndex_17 rfl rfl h
    · have h := ite_f h hc
      exact h.elim
theorem dc_Str_indexOf1_0 : decode M_Str_indexOf1.2.1 0 = .ok (.aload_n 0, 1) := by decide +kernel
theorem dc_Str_indexOf1_1 : decode M_Str_indexOf1.2.1 1 = .ok (.iload_n 1, 1) := by decide +kernel
theorem dc_Str_indexOf1_2 : decode M_Str_indexOf1.2.1 2 = .ok (.iconst 0, 1) := by decide +kernel
theorem dc_Str_indexOf1_3 : decode M_Str_indexOf1.2.1 3 = .ok (.invokevirtual 633, 3) := by decide +kernel
theorem dc_Str_indexOf1_6 : decode M_Str_indexOf1.2.1 6 = .ok (.ireturn, 1) := by decide +kernel
set_option maxRecDepth 20000 in
theorem e_Str_indexOf1_0 {d : Nat} {σ : PH} {K : PO → PH → Prop} (x0 : Nat) (x1 : Int32) (h : sh σ x0 = (0, 1) ∧ PW d M_Str_indexOf2 0 [.ref x0, .int x1, .int 0] [] σ (kI (fun r1 σ1 => K (.inl (some (.int r1))) σ1) K)) : PW (d + 1) M_Str_indexOf1 0 [.ref x0, .int x1] [] σ K := by
  refine pw_aload_n dc_Str_indexOf1_0 rfl rfl ?_
  refine pw_iload_n dc_Str_indexOf1_1 rfl ?_
  refine pw_iconst (v := 0) dc_Str_indexOf1_2 (by decide) ?_
  obtain ⟨hs1, h⟩ := h
  refine pw_callVS (vs := [.int x1, .int 0]) (st := []) (b := x0) dc_Str_indexOf1_3 cq_Str_indexOf2 (List.mem_of_getElem? (i := 843) (by decide +kernel)) (List.mem_of_getElem? (i := 844) (by decide +kernel)) (List.mem_of_getElem? (i := 842) (by decide +kernel)) rfl hs1 rfl rfl (by decide) (cat_cons rfl (cat_cons rfl (cat_nil))) (Nat.le_of_ble_eq_true rfl) (PW.mono (kI_kN (fun r1 σ1 h => ?_)) h)
  exact pw_iret dc_Str_indexOf1_6 rfl rfl h
theorem dc_Str_indexOf2_0 : decode M_Str_indexOf2.2.1 0 = .ok (.aload_n 0, 1) := by decide +kernel
theorem dc_Str_indexOf2_1 : decode M_Str_indexOf2.2.1 1 = .ok (.invokevirtual 492, 3) := by decide +kernel
theorem dc_Str_indexOf2_4 : decode M_Str_indexOf2.2.1 4 = .ok (.ifCond .eq 19, 3) := by decide +kernel
theorem dc_Str_indexOf2_7 : decode M_Str_indexOf2.2.1 7 = .ok (.aload_n 0, 1) := by decide +kernel
theorem dc_Str_indexOf2_8 : decode M_Str_indexOf2.2.1 8 = .ok (.getfield 9, 3) := by decide +kernel
theorem dc_Str_indexOf2_11 : decode M_Str_indexOf2.2.1 11 = .ok (.iload_n 1, 1) := by decide +kernel
theorem dc_Str_indexOf2_12 : decode M_Str_indexOf2.2.1 12 = .ok (.iload_n 2, 1) := by decide +kernel
theorem dc_Str_indexOf2_13 : decode M_Str_indexOf2.2.1 13 = .ok (.aload_n 0, 1) := by decide +kernel
theorem dc_Str_indexOf2_14 : decode M_Str_indexOf2.2.1 14 = .ok (.invokevirtual 505, 3) := by decide +kernel
theorem dc_Str_indexOf2_17 : decode M_Str_indexOf2.2.1 17 = .ok (.invokestatic 637, 3) := by decide +kernel
theorem dc_Str_indexOf2_20 : decode M_Str_indexOf2.2.1 20 = .ok (.goto 16, 3) := by decide +kernel
theorem dc_Str_indexOf2_36 : decode M_Str_indexOf2.2.1 36 = .ok (.ireturn, 1) := by decide +kernel
set_option maxRecDepth 20000 in
theorem e_Str_indexOf2_0 {d : Nat} {σ : PH} {K : PO → PH → Prop} (x0 : Nat) (x1 : Int32) (x2 : Int32) (h : sh σ x0 = (0, 1) ∧ PW d M_Str_isLatin1 0 [.ref x0] [] σ (kI (fun r1 σ1 => (if r1 = 0 then False else sh σ1 x0 = (0, 1) ∧ (∃ b1 : Nat, gR σ1 9000 x0 = some b1 ∧ PW d M_Str_length 0 [.ref x0] [] σ1 (kI (fun r2 σ2 => PW d M_Lat_indexOf 0 [.ref b1, .int x1, .int x2, .int r2] [] σ2 (kI (fun r3 σ3 => K (.inl (some (.int r3))) σ3) K)) K)))) K)) : PW (d + 1) M_Str_indexOf2 0 [.ref x0, .int x1, .int x2] [] σ K := by
  refine pw_aload_n dc_Str_indexOf2_0 rfl rfl ?_
  obtain ⟨hs1, h⟩ := h
  refine pw_callVS (vs := []) (st := []) (b := x0) dc_Str_indexOf2_1 cq_Str_isLatin1 (List.mem_of_getElem? (i := 489) (by decide +kernel)) (List.mem_of_getElem? (i := 490) (by decide +kernel)) (List.mem_of_getElem? (i := 488) (by decide +kernel)) rfl hs1 rfl rfl (by decide) (cat_nil) (Nat.le_of_ble_eq_true rfl) (PW.mono (kI_kN (fun r1 σ1 h => ?_)) h)
  refine pw_if_eq (tgt := 23) dc_Str_indexOf2_4 (by decide) (fun hc => ?_) (fun hc => ?_)
  · have h := ite_t h hc
    exact h.elim
  · have h := ite_f h hc
    refine pw_aload_n dc_Str_indexOf2_7 rfl rfl ?_
    obtain ⟨hs2, h⟩ := h
    refine pw_sval dc_Str_indexOf2_8 (List.mem_of_getElem? (i := 1350) (by decide +kernel)) hs2 ?_
    obtain ⟨b1, hb1, h⟩ := h
    refine PW.top (v' := .ref b1) (congrArg va_rf hb1) ?_
    refine pw_iload_n dc_Str_indexOf2_11 rfl ?_
    refine pw_iload_n dc_Str_indexOf2_12 rfl ?_
    refine pw_aload_n dc_Str_indexOf2_13 rfl rfl ?_
    refine pw_callVS (vs := []) (st := [.int x2, .int x1, .ref b1]) (b := x0) dc_Str_indexOf2_14 cq_Str_length (List.mem_of_getElem? (i := 475) (by decide +kernel)) (List.mem_of_getElem? (i := 476) (by decide +kernel)) (List.mem_of_getElem? (i := 846) (by decide +kernel)) rfl hs2 rfl rfl (by decide) (cat_nil) (Nat.le_of_ble_eq_true rfl) (PW.mono (kI_kN (fun r2 σ2 h => ?_)) h)
    refine pw_callS (vs := [.ref b1, .int x1, .int x2, .int r2]) (st := []) dc_Str_indexOf2_17 cq_Lat_indexOf (List.mem_of_getElem? (i := 848) (by decide +kernel)) (List.mem_of_getElem? (i := 847) (by decide +kernel)) rfl rfl (cat_cons rfl (cat_cons rfl (cat_cons rfl (cat_cons rfl (cat_nil))))) (Nat.le_of_ble_eq_true rfl) (PW.mono (kI_kN (fun r3 σ3 h => ?_)) h)
    refine pw_goto (tgt := 36) dc_Str_indexOf2_20 (by decide) ?_
    exact pw_iret dc_Str_indexOf2_36 rfl rfl h
theorem dc_Lat_indexOf_0 : decode M_Lat_indexOf.2.1 0 = .ok (.iload_n 1, 1) := by decide +kernel
theorem dc_Lat_indexOf_1 : decode M_Lat_indexOf.2.1 1 = .ok (.invokestatic 88, 3) := by decide +kernel
theorem dc_Lat_indexOf_4 : decode M_Lat_indexOf.2.1 4 = .ok (.ifCond .ne 5, 3) := by decide +kernel
theorem dc_Lat_indexOf_7 : decode M_Lat_indexOf.2.1 7 = .ok (.iconst (-1), 1) := by decide +kernel
theorem dc_Lat_indexOf_8 : decode M_Lat_indexOf.2.1 8 = .ok (.ireturn, 1) := by decide +kernel
theorem dc_Lat_indexOf_9 : decode M_Lat_indexOf.2.1 9 = .ok (.iload_n 2, 1) := by decide +kernel
theorem dc_Lat_indexOf_10 : decode M_Lat_indexOf.2.1 10 = .ok (.iconst 0, 1) := by decide +kernel
theorem dc_Lat_indexOf_11 : decode M_Lat_indexOf.2.1 11 = .ok (.invokestatic 92, 3) := by decide +kernel
theorem dc_Lat_indexOf_14 : decode M_Lat_indexOf.2.1 14 = .ok (.istore_n 2, 1) := by decide +kernel
theorem dc_Lat_indexOf_15 : decode M_Lat_indexOf.2.1 15 = .ok (.iload_n 3, 1) := by decide +kernel
theorem dc_Lat_indexOf_16 : decode M_Lat_indexOf.2.1 16 = .ok (.aload_n 0, 1) := by decide +kernel
theorem dc_Lat_indexOf_17 : decode M_Lat_indexOf.2.1 17 = .ok (.arraylength, 1) := by decide +kernel
theorem dc_Lat_indexOf_18 : decode M_Lat_indexOf.2.1 18 = .ok (.invokestatic 38, 3) := by decide +kernel
theorem dc_Lat_indexOf_21 : decode M_Lat_indexOf.2.1 21 = .ok (.istore_n 3, 1) := by decide +kernel
theorem dc_Lat_indexOf_22 : decode M_Lat_indexOf.2.1 22 = .ok (.iload_n 2, 1) := by decide +kernel
theorem dc_Lat_indexOf_23 : decode M_Lat_indexOf.2.1 23 = .ok (.iload_n 3, 1) := by decide +kernel
theorem dc_Lat_indexOf_24 : decode M_Lat_indexOf.2.1 24 = .ok (.if_icmp .lt 5, 3) := by decide +kernel
theorem dc_Lat_indexOf_27 : decode M_Lat_indexOf.2.1 27 = .ok (.iconst (-1), 1) := by decide +kernel
theorem dc_Lat_indexOf_28 : decode M_Lat_indexOf.2.1 28 = .ok (.ireturn, 1) := by decide +kernel
theorem dc_Lat_indexOf_29 : decode M_Lat_indexOf.2.1 29 = .ok (.aload_n 0, 1) := by decide +kernel
theorem dc_Lat_indexOf_30 : decode M_Lat_indexOf.2.1 30 = .ok (.iload_n 1, 1) := by decide +kernel
theorem dc_Lat_indexOf_31 : decode M_Lat_indexOf.2.1 31 = .ok (.iload_n 2, 1) := by decide +kernel
theorem dc_Lat_indexOf_32 : decode M_Lat_indexOf.2.1 32 = .ok (.iload_n 3, 1) := by decide +kernel
theorem dc_Lat_indexOf_33 : decode M_Lat_indexOf.2.1 33 = .ok (.invokestatic 95, 3) := by decide +kernel
theorem dc_Lat_indexOf_36 : decode M_Lat_indexOf.2.1 36 = .ok (.ireturn, 1) := by decide +kernel
set_option maxRecDepth 20000 in
theorem e_Lat_indexOf_0 {d : Nat} {σ : PH} {K : PO → PH → Prop} (x0 : Nat) (x1 : Int32) (x2 : Int32) (x3 : Int32) (h : PW d M_Lat_canEncode 0 [.int x1] [] σ (kI (fun r1 σ1 => (if r1 = 0 then K (.inl (some (.int ((-1))))) σ1 else (∃ n1 : Nat, sh σ1 x0 = (11, n1) ∧ (if (if x2 < 0 then 0 else x2) < (if (nI n1) < x3 then nI n1 else x3) then PW d M_Lat_indexOfChar 0 [.ref x0, .int x1, .int (if x2 < 0 then 0 else x2), .int (if (nI n1) < x3 then nI n1 else x3), uu, uu] [] σ1 (kI (fun r2 σ2 => K (.inl (some (.int r2))) σ2) K) else K (.inl (some (.int ((-1))))) σ1)))) K)) : PW (d + 1) M_Lat_indexOf 0 [.ref x0, .int x1, .int x2, .int x3] [] σ K := by
  refine pw_iload_n dc_Lat_indexOf_0 rfl ?_
  refine pw_callS (vs := [.int x1]) (st := []) dc_Lat_indexOf_1 cq_Lat_canEncode (List.mem_of_getElem? (i := 851) (by decide +kernel)) (List.mem_of_getElem? (i := 850) (by decide +kernel)) rfl rfl (cat_cons rfl (cat_nil)) (Nat.le_of_ble_eq_true rfl) (PW.mono (kI_kN (fun r1 σ1 h => ?_)) h)
  refine pw_if_ne (tgt := 9) dc_Lat_indexOf_4 (by decide) (fun hc => ?_) (fun hc => ?_)
  · have h := ite_f h hc
    refine pw_iload_n dc_Lat_indexOf_9 rfl ?_
    refine pw_iconst (v := 0) dc_Lat_indexOf_10 (by decide) ?_
    refine pw_mmax dc_Lat_indexOf_11 (List.mem_of_getElem? (i := 853) (by decide +kernel)) (Nat.le_of_ble_eq_true rfl) ?_
    refine pw_istore_n dc_Lat_indexOf_14 (by decide) ?_
    refine pw_iload_n dc_Lat_indexOf_15 rfl ?_
    refine pw_aload_n dc_Lat_indexOf_16 rfl rfl ?_
    obtain ⟨n1, hs1, h⟩ := h
    refine pw_alen dc_Lat_indexOf_17 (by decide) hs1 ?_
    refine pw_mmin dc_Lat_indexOf_18 (List.mem_of_getElem? (i := 854) (by decide +kernel)) (Nat.le_of_ble_eq_true rfl) ?_
    refine pw_istore_n dc_Lat_indexOf_21 (by decide) ?_
    refine pw_iload_n dc_Lat_indexOf_22 rfl ?_
    refine pw_iload_n dc_Lat_indexOf_23 rfl ?_
    refine pw_icmp_lt (tgt := 29) dc_Lat_indexOf_24 (by decide) (fun hc => ?_) (fun hc => ?_)
    · have h := ite_t h hc
      refine pw_aload_n dc_Lat_indexOf_29 rfl rfl ?_
      refine pw_iload_n dc_Lat_indexOf_30 rfl ?_
      refine pw_iload_n dc_Lat_indexOf_31 rfl ?_
      refine pw_iload_n dc_Lat_indexOf_32 rfl ?_
      refine pw_callS (vs := [.ref x0, .int x1, .int (if x2 < 0 then 0 else x2), .int (if (nI n1) < x3 then nI n1 else x3)]) (st := []) dc_Lat_indexOf_33 cq_Lat_indexOfChar (List.mem_of_getElem? (i := 856) (by decide +kernel)) (List.mem_of_getElem? (i := 855) (by decide +kernel)) rfl rfl (cat_cons rfl (cat_cons rfl (cat_cons rfl (cat_cons rfl (cat_nil))))) (Nat.le_of_ble_eq_true rfl) (PW.mono (kI_kN (fun r2 σ2 h => ?_)) h)
      exact pw_iret dc_Lat_indexOf_36 rfl rfl h
    · have h := ite_f h hc
      refine pw_iconst (v := (-1)) dc_Lat_indexOf_27 (by decide) ?_
      exact pw_iret dc_Lat_indexOf_28 rfl rfl h
  · have h := ite_t h hc
    refine pw_iconst (v := (-1)) dc_Lat_indexOf_7 (by decide) ?_
    exact pw_iret dc_Lat_indexOf_8 rfl rfl h
theorem dc_Lat_canEncode_0 : decode M_Lat_canEncode.2.1 0 = .ok (.iload_n 0, 1) := by decide +kernel
theorem dc_Lat_canEncode_1 : decode M_Lat_canEncode.2.1 1 = .ok (.ifCond .lt 14, 3) := by decide +kernel
theorem dc_Lat_canEncode_4 : decode M_Lat_canEncode.2.1 4 = .ok (.iload_n 0, 1) := by decide +kernel
theorem dc_Lat_canEncode_5 : decode M_Lat_canEncode.2.1 5 = .ok (.sipush 255, 3) := by decide +kernel
theorem dc_Lat_canEncode_8 : decode M_Lat_canEncode.2.1 8 = .ok (.if_icmp .gt 7, 3) := by decide +kernel
theorem dc_Lat_canEncode_11 : decode M_Lat_canEncode.2.1 11 = .ok (.iconst 1, 1) := by decide +kernel
theorem dc_Lat_canEncode_12 : decode M_Lat_canEncode.2.1 12 = .ok (.goto 4, 3) := by decide +kernel
theorem dc_Lat_canEncode_15 : decode M_Lat_canEncode.2.1 15 = .ok (.iconst 0, 1) := by decide +kernel
theorem dc_Lat_canEncode_16 : decode M_Lat_canEncode.2.1 16 = .ok (.ireturn, 1) := by decide +kernel
set_option maxRecDepth 20000 in
theorem e_Lat_canEncode_0 {d : Nat} {σ : PH} {K : PO → PH → Prop} (x0 : Int32) (h : (if x0 < 0 then K (.inl (some (.int 0))) σ else (if 255 < x0 then K (.inl (some (.int 0))) σ else K (.inl (some (.int 1))) σ))) : PW d M_Lat_canEncode 0 [.int x0] [] σ K := by
  refine pw_iload_n dc_Lat_canEncode_0 rfl ?_
  refine pw_if_lt (tgt := 15) dc_Lat_canEncode_1 (by decide) (fun hc => ?_) (fun hc => ?_)
  · have h := ite_t h hc
    refine pw_iconst (v := 0) dc_Lat_canEncode_15 (by decide) ?_
    exact pw_iret dc_Lat_canEncode_16 rfl (bo_nar (Or.inl rfl)) h
  · have h := ite_f h hc
    refine pw_iload_n dc_Lat_canEncode_4 rfl ?_
    refine pw_sipush (v := 255) dc_Lat_canEncode_5 (by decide) ?_
    refine pw_icmp_gt (tgt := 15) dc_Lat_canEncode_8 (by decide) (fun hc => ?_) (fun hc => ?_)
    · have h := ite_t h hc
      refine pw_iconst (v := 0) dc_Lat_canEncode_15 (by decide) ?_
      exact pw_iret dc_Lat_canEncode_16 rfl (bo_nar (Or.inl rfl)) h
    · have h := ite_f h hc
      refine pw_iconst (v := 1) dc_Lat_canEncode_11 (by decide) ?_
      refine pw_goto (tgt := 16) dc_Lat_canEncode_12 (by decide) ?_
      exact pw_iret dc_Lat_canEncode_16 rfl (bo_nar (Or.inr rfl)) h
theorem dc_Lat_indexOfChar_0 : decode M_Lat_indexOfChar.2.1 0 = .ok (.iload_n 1, 1) := by decide +kernel
theorem dc_Lat_indexOfChar_1 : decode M_Lat_indexOfChar.2.1 1 = .ok (.i2b, 1) := by decide +kernel
theorem dc_Lat_indexOfChar_2 : decode M_Lat_indexOfChar.2.1 2 = .ok (.istore 4, 2) := by decide +kernel
theorem dc_Lat_indexOfChar_4 : decode M_Lat_indexOfChar.2.1 4 = .ok (.iload_n 2, 1) := by decide +kernel
theorem dc_Lat_indexOfChar_5 : decode M_Lat_indexOfChar.2.1 5 = .ok (.istore 5, 2) := by decide +kernel
theorem dc_Lat_indexOfChar_7 : decode M_Lat_indexOfChar.2.1 7 = .ok (.iload 5, 2) := by decide +kernel
theorem dc_Lat_indexOfChar_9 : decode M_Lat_indexOfChar.2.1 9 = .ok (.iload_n 3, 1) := by decide +kernel
theorem dc_Lat_indexOfChar_10 : decode M_Lat_indexOfChar.2.1 10 = .ok (.if_icmp .ge 21, 3) := by decide +kernel
theorem dc_Lat_indexOfChar_13 : decode M_Lat_indexOfChar.2.1 13 = .ok (.aload_n 0, 1) := by decide +kernel
theorem dc_Lat_indexOfChar_14 : decode M_Lat_indexOfChar.2.1 14 = .ok (.iload 5, 2) := by decide +kernel
theorem dc_Lat_indexOfChar_16 : decode M_Lat_indexOfChar.2.1 16 = .ok (.baload, 1) := by decide +kernel
theorem dc_Lat_indexOfChar_17 : decode M_Lat_indexOfChar.2.1 17 = .ok (.iload 4, 2) := by decide +kernel
theorem dc_Lat_indexOfChar_19 : decode M_Lat_indexOfChar.2.1 19 = .ok (.if_icmp .ne 6, 3) := by decide +kernel
theorem dc_Lat_indexOfChar_22 : decode M_Lat_indexOfChar.2.1 22 = .ok (.iload 5, 2) := by decide +kernel
theorem dc_Lat_indexOfChar_24 : decode M_Lat_indexOfChar.2.1 24 = .ok (.ireturn, 1) := by decide +kernel
theorem dc_Lat_indexOfChar_25 : decode M_Lat_indexOfChar.2.1 25 = .ok (.iinc 5 1, 3) := by decide +kernel
theorem dc_Lat_indexOfChar_28 : decode M_Lat_indexOfChar.2.1 28 = .ok (.goto (-21), 3) := by decide +kernel
theorem dc_Lat_indexOfChar_31 : decode M_Lat_indexOfChar.2.1 31 = .ok (.iconst (-1), 1) := by decide +kernel
theorem dc_Lat_indexOfChar_32 : decode M_Lat_indexOfChar.2.1 32 = .ok (.ireturn, 1) := by decide +kernel
set_option maxRecDepth 20000 in
theorem e_Lat_indexOfChar_0 {d : Nat} {σ : PH} {K : PO → PH → Prop} (x0 : Nat) (x1 : Int32) (x2 : Int32) (x3 : Int32) (h : PW d M_Lat_indexOfChar 7 [.ref x0, uu, uu, .int x3, .int x1.toInt8.toInt32, .int x2] [] σ K) : PW d M_Lat_indexOfChar 0 [.ref x0, .int x1, .int x2, .int x3, uu, uu] [] σ K := by
  refine pw_iload_n dc_Lat_indexOfChar_0 rfl ?_
  refine pw_i2b dc_Lat_indexOfChar_1 ?_
  refine pw_istore dc_Lat_indexOfChar_2 (by decide) ?_
  refine pw_iload_n dc_Lat_indexOfChar_4 rfl ?_
  refine pw_istore dc_Lat_indexOfChar_5 (by decide) ?_
  refine PW.drop (ls' := [.ref x0, uu, uu, .int x3, .int x1.toInt8.toInt32, .int x2]) ⟨Or.inl rfl, Or.inr rfl, Or.inr rfl, Or.inl rfl, Or.inl rfl, Or.inl rfl, trivial⟩ ?_
  exact h
set_option maxRecDepth 20000 in
theorem e_Lat_indexOfChar_7 {d : Nat} {σ : PH} {K : PO → PH → Prop} (x0 : Nat) (x3 : Int32) (x4 : Int32) (x5 : Int32) (h : (if x3 ≤ x5 then K (.inl (some (.int ((-1))))) σ else (∃ n1 : Nat, sh σ x0 = (11, n1) ∧ vp_in x5 n1 ∧ (if (eI σ x0 (ix x5)) = x4 then K (.inl (some (.int x5))) σ else PW d M_Lat_indexOfChar 7 [.ref x0, uu, uu, .int x3, .int x4, .int (x5 + 1)] [] σ K)))) : PW d M_Lat_indexOfChar 7 [.ref x0, uu, uu, .int x3, .int x4, .int x5] [] σ K := by
  refine pw_iload dc_Lat_indexOfChar_7 rfl ?_
  refine pw_iload_n dc_Lat_indexOfChar_9 rfl ?_
  refine pw_icmp_ge (tgt := 31) dc_Lat_indexOfChar_10 (by decide) (fun hc => ?_) (fun hc => ?_)
  · have h := ite_t h hc
    refine pw_iconst (v := (-1)) dc_Lat_indexOfChar_31 (by decide) ?_
    exact pw_iret dc_Lat_indexOfChar_32 rfl rfl h
  · have h := ite_f h hc
    refine pw_aload_n dc_Lat_indexOfChar_13 rfl rfl ?_
    refine pw_iload dc_Lat_indexOfChar_14 rfl ?_
    obtain ⟨n1, hs1, h⟩ := h
    obtain ⟨hi1, h⟩ := h
    refine pw_bald dc_Lat_indexOfChar_16 hs1 hi1 ?_
    refine pw_iload dc_Lat_indexOfChar_17 rfl ?_
    refine pw_icmp_ne (tgt := 25) dc_Lat_indexOfChar_19 (by decide) (fun hc => ?_) (fun hc => ?_)
    · have h := ite_f h hc
      refine pw_iincv (v := 1) dc_Lat_indexOfChar_25 (by decide) rfl (by decide) ?_
      refine pw_goto (tgt := 7) dc_Lat_indexOfChar_28 (by decide) ?_
      exact h
    · have h := ite_t h hc
      refine pw_iload dc_Lat_indexOfChar_22 rfl ?_
      exact pw_iret dc_Lat_indexOfChar_24 rfl rfl h
