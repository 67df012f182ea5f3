theorem dc_Mod_thrown_0 : decode M_Mod_thrown.2.1 0 = .ok (.aload_n 0, 1) := by decide +kernel
theorem dc_Mod_thrown_1 : decode M_Mod_thrown.2.1 1 = .ok (.getfield 136, 3) := by decide +kernel
theorem dc_Mod_thrown_4 : decode M_Mod_thrown.2.1 4 = .ok (.ireturn, 1) := by decide +kernel
set_option maxRecDepth 20000 in
theorem e_Mod_thrown_0 {d : Nat} {σ : PH} {K : PO → PH → Prop} (x0 : Nat) (h : sh σ x0 = (1, 11) ∧ K (.inl (some (.int (gI σ 704 x0)))) σ) : PW d M_Mod_thrown 0 [.ref x0] [] σ K := by
  refine pw_aload_n dc_Mod_thrown_0 rfl rfl ?_
  obtain ⟨hs1, h⟩ := h
  refine pw_getI (c := 11) (k := 0) (f := 704) dc_Mod_thrown_1 fl_Mod_136 rfl rfl hs1 ?_
  exact pw_iret dc_Mod_thrown_4 rfl rfl h
theorem dc_Mod_refused_0 : decode M_Mod_refused.2.1 0 = .ok (.aload_n 0, 1) := by decide +kernel
theorem dc_Mod_refused_1 : decode M_Mod_refused.2.1 1 = .ok (.iload_n 1, 1) := by decide +kernel
theorem dc_Mod_refused_2 : decode M_Mod_refused.2.1 2 = .ok (.putfield 136, 3) := by decide +kernel
theorem dc_Mod_refused_5 : decode M_Mod_refused.2.1 5 = .ok (.iload_n 1, 1) := by decide +kernel
theorem dc_Mod_refused_6 : decode M_Mod_refused.2.1 6 = .ok (.ifCond .le 7, 3) := by decide +kernel
theorem dc_Mod_refused_9 : decode M_Mod_refused.2.1 9 = .ok (.iconst 1, 1) := by decide +kernel
theorem dc_Mod_refused_10 : decode M_Mod_refused.2.1 10 = .ok (.goto 4, 3) := by decide +kernel
theorem dc_Mod_refused_13 : decode M_Mod_refused.2.1 13 = .ok (.iconst 0, 1) := by decide +kernel
theorem dc_Mod_refused_14 : decode M_Mod_refused.2.1 14 = .ok (.ireturn, 1) := by decide +kernel
set_option maxRecDepth 20000 in
theorem e_Mod_refused_0 {d : Nat} {σ : PH} {K : PO → PH → Prop} (x0 : Nat) (x1 : Int32) (h : sh σ x0 = (1, 11) ∧ (∀ σ1 : PH, σ1 = pI σ 704 x0 x1 → (if x1 ≤ 0 then K (.inl (some (.int 0))) σ1 else K (.inl (some (.int 1))) σ1))) : PW d M_Mod_refused 0 [.ref x0, .int x1] [] σ K := by
  refine pw_aload_n dc_Mod_refused_0 rfl rfl ?_
  refine pw_iload_n dc_Mod_refused_1 rfl ?_
  obtain ⟨hs1, h⟩ := h
  have h := h _ rfl
  refine pw_putI (c := 11) (k := 0) (f := 704) dc_Mod_refused_2 fl_Mod_136 (Or.inl rfl) rfl rfl hs1 ?_
  refine pw_iload_n dc_Mod_refused_5 rfl ?_
  refine pw_if_le (tgt := 13) dc_Mod_refused_6 (by decide) (fun hc => ?_) (fun hc => ?_)
  · have h := ite_t h hc
    refine pw_iconst (v := 0) dc_Mod_refused_13 (by decide) ?_
    exact pw_iret dc_Mod_refused_14 rfl (bo_nar (Or.inl rfl)) h
  · have h := ite_f h hc
    refine pw_iconst (v := 1) dc_Mod_refused_9 (by decide) ?_
    refine pw_goto (tgt := 14) dc_Mod_refused_10 (by decide) ?_
    exact pw_iret dc_Mod_refused_14 rfl (bo_nar (Or.inr rfl)) h
theorem dc_Mod_isIn_0 : decode M_Mod_isIn.2.1 0 = .ok (.iload_n 0, 1) := by decide +kernel
theorem dc_Mod_isIn_1 : decode M_Mod_isIn.2.1 1 = .ok (.iload_n 1, 1) := by decide +kernel
theorem dc_Mod_isIn_2 : decode M_Mod_isIn.2.1 2 = .ok (.if_icmp .lt 12, 3) := by decide +kernel
theorem dc_Mod_isIn_5 : decode M_Mod_isIn.2.1 5 = .ok (.iload_n 0, 1) := by decide +kernel
theorem dc_Mod_isIn_6 : decode M_Mod_isIn.2.1 6 = .ok (.iload_n 2, 1) := by decide +kernel
theorem dc_Mod_isIn_7 : decode M_Mod_isIn.2.1 7 = .ok (.if_icmp .gt 7, 3) := by decide +kernel
theorem dc_Mod_isIn_10 : decode M_Mod_isIn.2.1 10 = .ok (.iconst 1, 1) := by decide +kernel
theorem dc_Mod_isIn_11 : decode M_Mod_isIn.2.1 11 = .ok (.goto 4, 3) := by decide +kernel
theorem dc_Mod_isIn_14 : decode M_Mod_isIn.2.1 14 = .ok (.iconst 0, 1) := by decide +kernel
theorem dc_Mod_isIn_15 : decode M_Mod_isIn.2.1 15 = .ok (.ireturn, 1) := by decide +kernel
set_option maxRecDepth 20000 in
theorem e_Mod_isIn_0 {d : Nat} {σ : PH} {K : PO → PH → Prop} (x0 : Int32) (x1 : Int32) (x2 : Int32) (h : (if x0 < x1 then K (.inl (some (.int 0))) σ else (if x2 < x0 then K (.inl (some (.int 0))) σ else K (.inl (some (.int 1))) σ))) : PW d M_Mod_isIn 0 [.int x0, .int x1, .int x2] [] σ K := by
  refine pw_iload_n dc_Mod_isIn_0 rfl ?_
  refine pw_iload_n dc_Mod_isIn_1 rfl ?_
  refine pw_icmp_lt (tgt := 14) dc_Mod_isIn_2 (by decide) (fun hc => ?_) (fun hc => ?_)
  · have h := ite_t h hc
    refine pw_iconst (v := 0) dc_Mod_isIn_14 (by decide) ?_
    exact pw_iret dc_Mod_isIn_15 rfl (bo_nar (Or.inl rfl)) h
  · have h := ite_f h hc
    refine pw_iload_n dc_Mod_isIn_5 rfl ?_
    refine pw_iload_n dc_Mod_isIn_6 rfl ?_
    refine pw_icmp_gt (tgt := 14) dc_Mod_isIn_7 (by decide) (fun hc => ?_) (fun hc => ?_)
    · have h := ite_t h hc
      refine pw_iconst (v := 0) dc_Mod_isIn_14 (by decide) ?_
      exact pw_iret dc_Mod_isIn_15 rfl (bo_nar (Or.inl rfl)) h
    · have h := ite_f h hc
      refine pw_iconst (v := 1) dc_Mod_isIn_10 (by decide) ?_
      refine pw_goto (tgt := 15) dc_Mod_isIn_11 (by decide) ?_
      exact pw_iret dc_Mod_isIn_15 rfl (bo_nar (Or.inr rfl)) h
theorem dc_Mod_isChannel_0 : decode M_Mod_isChannel.2.1 0 = .ok (.iload_n 0, 1) := by decide +kernel
theorem dc_Mod_isChannel_1 : decode M_Mod_isChannel.2.1 1 = .ok (.iconst 0, 1) := by decide +kernel
theorem dc_Mod_isChannel_2 : decode M_Mod_isChannel.2.1 2 = .ok (.bipush 7, 2) := by decide +kernel
theorem dc_Mod_isChannel_4 : decode M_Mod_isChannel.2.1 4 = .ok (.invokestatic 140, 3) := by decide +kernel
theorem dc_Mod_isChannel_7 : decode M_Mod_isChannel.2.1 7 = .ok (.ireturn, 1) := by decide +kernel
set_option maxRecDepth 20000 in
theorem e_Mod_isChannel_0 {d : Nat} {σ : PH} {K : PO → PH → Prop} (x0 : Int32) (h : PW d M_Mod_isIn 0 [.int x0, .int 0, .int 7] [] σ (kI (fun r1 σ1 => bo r1 ∧ K (.inl (some (.int r1))) σ1) K)) : PW (d + 1) M_Mod_isChannel 0 [.int x0] [] σ K := by
  refine pw_iload_n dc_Mod_isChannel_0 rfl ?_
  refine pw_iconst (v := 0) dc_Mod_isChannel_1 (by decide) ?_
  refine pw_bipush (v := 7) dc_Mod_isChannel_2 (by decide) ?_
  refine pw_callS (vs := [.int x0, .int 0, .int 7]) (st := []) dc_Mod_isChannel_4 cq_Mod_isIn (List.mem_of_getElem? (i := 1132) (by decide +kernel)) (List.mem_of_getElem? (i := 1131) (by decide +kernel)) rfl rfl (cat_cons rfl (cat_cons rfl (cat_cons rfl (cat_nil)))) (Nat.le_of_ble_eq_true rfl) (PW.mono (kI_kN (fun r1 σ1 h => ?_)) h)
  exact pw_iret dc_Mod_isChannel_7 rfl (bo_nar h.1) h.2
theorem dc_Mod_figure_0 : decode M_Mod_figure.2.1 0 = .ok (.iload_n 0, 1) := by decide +kernel
theorem dc_Mod_figure_60 : decode M_Mod_figure.2.1 60 = .ok (.bipush 46, 2) := by decide +kernel
theorem dc_Mod_figure_62 : decode M_Mod_figure.2.1 62 = .ok (.ireturn, 1) := by decide +kernel
theorem dc_Mod_figure_63 : decode M_Mod_figure.2.1 63 = .ok (.bipush 44, 2) := by decide +kernel
theorem dc_Mod_figure_65 : decode M_Mod_figure.2.1 65 = .ok (.ireturn, 1) := by decide +kernel
theorem dc_Mod_figure_66 : decode M_Mod_figure.2.1 66 = .ok (.bipush 45, 2) := by decide +kernel
theorem dc_Mod_figure_68 : decode M_Mod_figure.2.1 68 = .ok (.ireturn, 1) := by decide +kernel
theorem dc_Mod_figure_69 : decode M_Mod_figure.2.1 69 = .ok (.bipush 47, 2) := by decide +kernel
theorem dc_Mod_figure_71 : decode M_Mod_figure.2.1 71 = .ok (.ireturn, 1) := by decide +kernel
theorem dc_Mod_figure_72 : decode M_Mod_figure.2.1 72 = .ok (.bipush 40, 2) := by decide +kernel
theorem dc_Mod_figure_74 : decode M_Mod_figure.2.1 74 = .ok (.ireturn, 1) := by decide +kernel
theorem dc_Mod_figure_75 : decode M_Mod_figure.2.1 75 = .ok (.bipush 41, 2) := by decide +kernel
theorem dc_Mod_figure_77 : decode M_Mod_figure.2.1 77 = .ok (.ireturn, 1) := by decide +kernel
theorem dc_Mod_figure_78 : decode M_Mod_figure.2.1 78 = .ok (.bipush 63, 2) := by decide +kernel
theorem dc_Mod_figure_80 : decode M_Mod_figure.2.1 80 = .ok (.ireturn, 1) := by decide +kernel
theorem dc_Mod_figure_81 : decode M_Mod_figure.2.1 81 = .ok (.bipush 58, 2) := by decide +kernel
theorem dc_Mod_figure_83 : decode M_Mod_figure.2.1 83 = .ok (.ireturn, 1) := by decide +kernel
theorem dc_Mod_figure_84 : decode M_Mod_figure.2.1 84 = .ok (.bipush 39, 2) := by decide +kernel
theorem dc_Mod_figure_86 : decode M_Mod_figure.2.1 86 = .ok (.ireturn, 1) := by decide +kernel
theorem dc_Mod_figure_87 : decode M_Mod_figure.2.1 87 = .ok (.bipush 43, 2) := by decide +kernel
theorem dc_Mod_figure_89 : decode M_Mod_figure.2.1 89 = .ok (.ireturn, 1) := by decide +kernel
theorem dc_Mod_figure_90 : decode M_Mod_figure.2.1 90 = .ok (.bipush 61, 2) := by decide +kernel
theorem dc_Mod_figure_92 : decode M_Mod_figure.2.1 92 = .ok (.ireturn, 1) := by decide +kernel
theorem dc_Mod_figure_93 : decode M_Mod_figure.2.1 93 = .ok (.bipush 48, 2) := by decide +kernel
theorem dc_Mod_figure_95 : decode M_Mod_figure.2.1 95 = .ok (.iload_n 0, 1) := by decide +kernel
theorem dc_Mod_figure_96 : decode M_Mod_figure.2.1 96 = .ok (.iadd, 1) := by decide +kernel
theorem dc_Mod_figure_97 : decode M_Mod_figure.2.1 97 = .ok (.i2c, 1) := by decide +kernel
theorem dc_Mod_figure_98 : decode M_Mod_figure.2.1 98 = .ok (.ireturn, 1) := by decide +kernel
set_option maxRecDepth 20000 in
theorem e_Mod_figure_0 {d : Nat} {σ : PH} {K : PO → PH → Prop} (x0 : Int32) (h : PW d M_Mod_figure 1 [.int x0] [.int x0] σ K) : PW d M_Mod_figure 0 [.int x0] [] σ K := by
  refine pw_iload_n dc_Mod_figure_0 rfl ?_
  exact h
set_option maxRecDepth 20000 in
theorem e_Mod_figure_60 {d : Nat} {σ : PH} {K : PO → PH → Prop}  (h : ch 46 ∧ K (.inl (some (.int 46))) σ) : PW d M_Mod_figure 60 [uu] [] σ K := by
  refine pw_bipush (v := 46) dc_Mod_figure_60 (by decide) ?_
  exact pw_iret dc_Mod_figure_62 rfl h.1 h.2
set_option maxRecDepth 20000 in
theorem e_Mod_figure_63 {d : Nat} {σ : PH} {K : PO → PH → Prop}  (h : ch 44 ∧ K (.inl (some (.int 44))) σ) : PW d M_Mod_figure 63 [uu] [] σ K := by
  refine pw_bipush (v := 44) dc_Mod_figure_63 (by decide) ?_
  exact pw_iret dc_Mod_figure_65 rfl h.1 h.2
set_option maxRecDepth 20000 in
theorem e_Mod_figure_66 {d : Nat} {σ : PH} {K : PO → PH → Prop}  (h : ch 45 ∧ K (.inl (some (.int 45))) σ) : PW d M_Mod_figure 66 [uu] [] σ K := by
  refine pw_bipush (v := 45) dc_Mod_figure_66 (by decide) ?_
  exact pw_iret dc_Mod_figure_68 rfl h.1 h.2
set_option maxRecDepth 20000 in
theorem e_Mod_figure_69 {d : Nat} {σ : PH} {K : PO → PH → Prop}  (h : ch 47 ∧ K (.inl (some (.int 47))) σ) : PW d M_Mod_figure 69 [uu] [] σ K := by
  refine pw_bipush (v := 47) dc_Mod_figure_69 (by decide) ?_
  exact pw_iret dc_Mod_figure_71 rfl h.1 h.2
set_option maxRecDepth 20000 in
theorem e_Mod_figure_72 {d : Nat} {σ : PH} {K : PO → PH → Prop}  (h : ch 40 ∧ K (.inl (some (.int 40))) σ) : PW d M_Mod_figure 72 [uu] [] σ K := by
  refine pw_bipush (v := 40) dc_Mod_figure_72 (by decide) ?_
  exact pw_iret dc_Mod_figure_74 rfl h.1 h.2
set_option maxRecDepth 20000 in
theorem e_Mod_figure_75 {d : Nat} {σ : PH} {K : PO → PH → Prop}  (h : ch 41 ∧ K (.inl (some (.int 41))) σ) : PW d M_Mod_figure 75 [uu] [] σ K := by
  refine pw_bipush (v := 41) dc_Mod_figure_75 (by decide) ?_
  exact pw_iret dc_Mod_figure_77 rfl h.1 h.2
set_option maxRecDepth 20000 in
theorem e_Mod_figure_78 {d : Nat} {σ : PH} {K : PO → PH → Prop}  (h : ch 63 ∧ K (.inl (some (.int 63))) σ) : PW d M_Mod_figure 78 [uu] [] σ K := by
  refine pw_bipush (v := 63) dc_Mod_figure_78 (by decide) ?_
  exact pw_iret dc_Mod_figure_80 rfl h.1 h.2
set_option maxRecDepth 20000 in
theorem e_Mod_figure_81 {d : Nat} {σ : PH} {K : PO → PH → Prop}  (h : ch 58 ∧ K (.inl (some (.int 58))) σ) : PW d M_Mod_figure 81 [uu] [] σ K := by
  refine pw_bipush (v := 58) dc_Mod_figure_81 (by decide) ?_
  exact pw_iret dc_Mod_figure_83 rfl h.1 h.2
set_option maxRecDepth 20000 in
theorem e_Mod_figure_84 {d : Nat} {σ : PH} {K : PO → PH → Prop}  (h : ch 39 ∧ K (.inl (some (.int 39))) σ) : PW d M_Mod_figure 84 [uu] [] σ K := by
  refine pw_bipush (v := 39) dc_Mod_figure_84 (by decide) ?_
  exact pw_iret dc_Mod_figure_86 rfl h.1 h.2
set_option maxRecDepth 20000 in
theorem e_Mod_figure_87 {d : Nat} {σ : PH} {K : PO → PH → Prop}  (h : ch 43 ∧ K (.inl (some (.int 43))) σ) : PW d M_Mod_figure 87 [uu] [] σ K := by
  refine pw_bipush (v := 43) dc_Mod_figure_87 (by decide) ?_
  exact pw_iret dc_Mod_figure_89 rfl h.1 h.2
set_option maxRecDepth 20000 in
theorem e_Mod_figure_90 {d : Nat} {σ : PH} {K : PO → PH → Prop}  (h : ch 61 ∧ K (.inl (some (.int 61))) σ) : PW d M_Mod_figure 90 [uu] [] σ K := by
  refine pw_bipush (v := 61) dc_Mod_figure_90 (by decide) ?_
  exact pw_iret dc_Mod_figure_92 rfl h.1 h.2
set_option maxRecDepth 20000 in
theorem e_Mod_figure_93 {d : Nat} {σ : PH} {K : PO → PH → Prop} (x0 : Int32) (h : ch (((48 + x0).toUInt32 % 65536).toInt32) ∧ K (.inl (some (.int (((48 + x0).toUInt32 % 65536).toInt32)))) σ) : PW d M_Mod_figure 93 [.int x0] [] σ K := by
  refine pw_bipush (v := 48) dc_Mod_figure_93 (by decide) ?_
  refine pw_iload_n dc_Mod_figure_95 rfl ?_
  refine pw_iadd dc_Mod_figure_96 ?_
  refine pw_i2c dc_Mod_figure_97 ?_
  exact pw_iret dc_Mod_figure_98 rfl h.1 h.2
theorem dc_Mod_figureOf_0 : decode M_Mod_figureOf.2.1 0 = .ok (.iconst (-1), 1) := by decide +kernel
theorem dc_Mod_figureOf_1 : decode M_Mod_figureOf.2.1 1 = .ok (.istore_n 1, 1) := by decide +kernel
theorem dc_Mod_figureOf_2 : decode M_Mod_figureOf.2.1 2 = .ok (.iconst 0, 1) := by decide +kernel
theorem dc_Mod_figureOf_3 : decode M_Mod_figureOf.2.1 3 = .ok (.istore_n 2, 1) := by decide +kernel
theorem dc_Mod_figureOf_4 : decode M_Mod_figureOf.2.1 4 = .ok (.iload_n 2, 1) := by decide +kernel
theorem dc_Mod_figureOf_5 : decode M_Mod_figureOf.2.1 5 = .ok (.bipush 20, 2) := by decide +kernel
theorem dc_Mod_figureOf_7 : decode M_Mod_figureOf.2.1 7 = .ok (.if_icmp .gt 23, 3) := by decide +kernel
theorem dc_Mod_figureOf_10 : decode M_Mod_figureOf.2.1 10 = .ok (.iload_n 2, 1) := by decide +kernel
theorem dc_Mod_figureOf_11 : decode M_Mod_figureOf.2.1 11 = .ok (.invokestatic 144, 3) := by decide +kernel
theorem dc_Mod_figureOf_14 : decode M_Mod_figureOf.2.1 14 = .ok (.iload_n 0, 1) := by decide +kernel
theorem dc_Mod_figureOf_15 : decode M_Mod_figureOf.2.1 15 = .ok (.if_icmp .ne 7, 3) := by decide +kernel
theorem dc_Mod_figureOf_18 : decode M_Mod_figureOf.2.1 18 = .ok (.iload_n 2, 1) := by decide +kernel
theorem dc_Mod_figureOf_19 : decode M_Mod_figureOf.2.1 19 = .ok (.goto 4, 3) := by decide +kernel
theorem dc_Mod_figureOf_22 : decode M_Mod_figureOf.2.1 22 = .ok (.iload_n 1, 1) := by decide +kernel
theorem dc_Mod_figureOf_23 : decode M_Mod_figureOf.2.1 23 = .ok (.istore_n 1, 1) := by decide +kernel
theorem dc_Mod_figureOf_24 : decode M_Mod_figureOf.2.1 24 = .ok (.iinc 2 1, 3) := by decide +kernel
theorem dc_Mod_figureOf_27 : decode M_Mod_figureOf.2.1 27 = .ok (.goto (-23), 3) := by decide +kernel
theorem dc_Mod_figureOf_30 : decode M_Mod_figureOf.2.1 30 = .ok (.iload_n 1, 1) := by decide +kernel
theorem dc_Mod_figureOf_31 : decode M_Mod_figureOf.2.1 31 = .ok (.ireturn, 1) := by decide +kernel
set_option maxRecDepth 20000 in
theorem e_Mod_figureOf_0 {d : Nat} {σ : PH} {K : PO → PH → Prop} (x0 : Int32) (h : PW (d + 1) M_Mod_figureOf 4 [.int x0, .int ((-1)), .int 0] [] σ K) : PW (d + 1) M_Mod_figureOf 0 [.int x0, uu, uu] [] σ K := by
  refine pw_iconst (v := (-1)) dc_Mod_figureOf_0 (by decide) ?_
  refine pw_istore_n dc_Mod_figureOf_1 (by decide) ?_
  refine pw_iconst (v := 0) dc_Mod_figureOf_2 (by decide) ?_
  refine pw_istore_n dc_Mod_figureOf_3 (by decide) ?_
  exact h
set_option maxRecDepth 20000 in
theorem e_Mod_figureOf_4 {d : Nat} {σ : PH} {K : PO → PH → Prop} (x0 : Int32) (x1 : Int32) (x2 : Int32) (h : (if 20 < x2 then K (.inl (some (.int x1))) σ else PW d M_Mod_figure 0 [.int x2] [] σ (kI (fun r1 σ1 => (if r1 = x0 then PW (d + 1) M_Mod_figureOf 23 [.int x0, uu, .int x2] [.int x2] σ1 K else PW (d + 1) M_Mod_figureOf 23 [.int x0, uu, .int x2] [.int x1] σ1 K)) K))) : PW (d + 1) M_Mod_figureOf 4 [.int x0, .int x1, .int x2] [] σ K := by
  refine pw_iload_n dc_Mod_figureOf_4 rfl ?_
  refine pw_bipush (v := 20) dc_Mod_figureOf_5 (by decide) ?_
  refine pw_icmp_gt (tgt := 30) dc_Mod_figureOf_7 (by decide) (fun hc => ?_) (fun hc => ?_)
  · have h := ite_t h hc
    refine pw_iload_n dc_Mod_figureOf_30 rfl ?_
    exact pw_iret dc_Mod_figureOf_31 rfl rfl h
  · have h := ite_f h hc
    refine pw_iload_n dc_Mod_figureOf_10 rfl ?_
    refine pw_callS (vs := [.int x2]) (st := []) dc_Mod_figureOf_11 cq_Mod_figure (List.mem_of_getElem? (i := 1143) (by decide +kernel)) (List.mem_of_getElem? (i := 1142) (by decide +kernel)) rfl rfl (cat_cons rfl (cat_nil)) (Nat.le_of_ble_eq_true rfl) (PW.mono (kI_kN (fun r1 σ1 h => ?_)) h)
    refine pw_iload_n dc_Mod_figureOf_14 rfl ?_
    refine pw_icmp_ne (tgt := 22) dc_Mod_figureOf_15 (by decide) (fun hc => ?_) (fun hc => ?_)
    · have h := ite_f h hc
      refine pw_iload_n dc_Mod_figureOf_22 rfl ?_
      refine PW.drop (ls' := [.int x0, uu, .int x2]) ⟨Or.inl rfl, Or.inr rfl, Or.inl rfl, trivial⟩ ?_
      exact h
    · have h := ite_t h hc
      refine pw_iload_n dc_Mod_figureOf_18 rfl ?_
      refine pw_goto (tgt := 23) dc_Mod_figureOf_19 (by decide) ?_
      refine PW.drop (ls' := [.int x0, uu, .int x2]) ⟨Or.inl rfl, Or.inr rfl, Or.inl rfl, trivial⟩ ?_
      exact h
set_option maxRecDepth 20000 in
theorem e_Mod_figureOf_23 {d : Nat} {σ : PH} {K : PO → PH → Prop} (x0 : Int32) (x2 : Int32) (y0 : Int32) (h : PW (d + 1) M_Mod_figureOf 4 [.int x0, .int y0, .int (x2 + 1)] [] σ K) : PW (d + 1) M_Mod_figureOf 23 [.int x0, uu, .int x2] [.int y0] σ K := by
  refine pw_istore_n dc_Mod_figureOf_23 (by decide) ?_
  refine pw_iincv (v := 1) dc_Mod_figureOf_24 (by decide) rfl (by decide) ?_
  refine pw_goto (tgt := 4) dc_Mod_figureOf_27 (by decide) ?_
  exact h
theorem dc_Mod_isLetter_0 : decode M_Mod_isLetter.2.1 0 = .ok (.iload_n 0, 1) := by decide +kernel
theorem dc_Mod_isLetter_1 : decode M_Mod_isLetter.2.1 1 = .ok (.bipush 65, 2) := by decide +kernel
theorem dc_Mod_isLetter_3 : decode M_Mod_isLetter.2.1 3 = .ok (.if_icmp .lt 13, 3) := by decide +kernel
theorem dc_Mod_isLetter_6 : decode M_Mod_isLetter.2.1 6 = .ok (.iload_n 0, 1) := by decide +kernel
theorem dc_Mod_isLetter_7 : decode M_Mod_isLetter.2.1 7 = .ok (.bipush 90, 2) := by decide +kernel
theorem dc_Mod_isLetter_9 : decode M_Mod_isLetter.2.1 9 = .ok (.if_icmp .gt 7, 3) := by decide +kernel
theorem dc_Mod_isLetter_12 : decode M_Mod_isLetter.2.1 12 = .ok (.iconst 1, 1) := by decide +kernel
theorem dc_Mod_isLetter_13 : decode M_Mod_isLetter.2.1 13 = .ok (.goto 4, 3) := by decide +kernel
theorem dc_Mod_isLetter_16 : decode M_Mod_isLetter.2.1 16 = .ok (.iconst 0, 1) := by decide +kernel
theorem dc_Mod_isLetter_17 : decode M_Mod_isLetter.2.1 17 = .ok (.ireturn, 1) := by decide +kernel
set_option maxRecDepth 20000 in
theorem e_Mod_isLetter_0 {d : Nat} {σ : PH} {K : PO → PH → Prop} (x0 : Int32) (h : (if x0 < 65 then K (.inl (some (.int 0))) σ else (if 90 < x0 then K (.inl (some (.int 0))) σ else K (.inl (some (.int 1))) σ))) : PW d M_Mod_isLetter 0 [.int x0] [] σ K := by
  refine pw_iload_n dc_Mod_isLetter_0 rfl ?_
  refine pw_bipush (v := 65) dc_Mod_isLetter_1 (by decide) ?_
  refine pw_icmp_lt (tgt := 16) dc_Mod_isLetter_3 (by decide) (fun hc => ?_) (fun hc => ?_)
  · have h := ite_t h hc
    refine pw_iconst (v := 0) dc_Mod_isLetter_16 (by decide) ?_
    exact pw_iret dc_Mod_isLetter_17 rfl (bo_nar (Or.inl rfl)) h
  · have h := ite_f h hc
    refine pw_iload_n dc_Mod_isLetter_6 rfl ?_
    refine pw_bipush (v := 90) dc_Mod_isLetter_7 (by decide) ?_
    refine pw_icmp_gt (tgt := 16) dc_Mod_isLetter_9 (by decide) (fun hc => ?_) (fun hc => ?_)
    · have h := ite_t h hc
      refine pw_iconst (v := 0) dc_Mod_isLetter_16 (by decide) ?_
      exact pw_iret dc_Mod_isLetter_17 rfl (bo_nar (Or.inl rfl)) h
    · have h := ite_f h hc
      refine pw_iconst (v := 1) dc_Mod_isLetter_12 (by decide) ?_
      refine pw_goto (tgt := 17) dc_Mod_isLetter_13 (by decide) ?_
      exact pw_iret dc_Mod_isLetter_17 rfl (bo_nar (Or.inr rfl)) h
theorem dc_Mod_isDigit_0 : decode M_Mod_isDigit.2.1 0 = .ok (.iload_n 0, 1) := by decide +kernel
theorem dc_Mod_isDigit_1 : decode M_Mod_isDigit.2.1 1 = .ok (.bipush 48, 2) := by decide +kernel
theorem dc_Mod_isDigit_3 : decode M_Mod_isDigit.2.1 3 = .ok (.if_icmp .lt 13, 3) := by decide +kernel
theorem dc_Mod_isDigit_6 : decode M_Mod_isDigit.2.1 6 = .ok (.iload_n 0, 1) := by decide +kernel
theorem dc_Mod_isDigit_7 : decode M_Mod_isDigit.2.1 7 = .ok (.bipush 57, 2) := by decide +kernel
theorem dc_Mod_isDigit_9 : decode M_Mod_isDigit.2.1 9 = .ok (.if_icmp .gt 7, 3) := by decide +kernel
theorem dc_Mod_isDigit_12 : decode M_Mod_isDigit.2.1 12 = .ok (.iconst 1, 1) := by decide +kernel
theorem dc_Mod_isDigit_13 : decode M_Mod_isDigit.2.1 13 = .ok (.goto 4, 3) := by decide +kernel
theorem dc_Mod_isDigit_16 : decode M_Mod_isDigit.2.1 16 = .ok (.iconst 0, 1) := by decide +kernel
theorem dc_Mod_isDigit_17 : decode M_Mod_isDigit.2.1 17 = .ok (.ireturn, 1) := by decide +kernel
set_option maxRecDepth 20000 in
theorem e_Mod_isDigit_0 {d : Nat} {σ : PH} {K : PO → PH → Prop} (x0 : Int32) (h : (if x0 < 48 then K (.inl (some (.int 0))) σ else (if 57 < x0 then K (.inl (some (.int 0))) σ else K (.inl (some (.int 1))) σ))) : PW d M_Mod_isDigit 0 [.int x0] [] σ K := by
  refine pw_iload_n dc_Mod_isDigit_0 rfl ?_
  refine pw_bipush (v := 48) dc_Mod_isDigit_1 (by decide) ?_
  refine pw_icmp_lt (tgt := 16) dc_Mod_isDigit_3 (by decide) (fun hc => ?_) (fun hc => ?_)
  · have h := ite_t h hc
    refine pw_iconst (v := 0) dc_Mod_isDigit_16 (by decide) ?_
    exact pw_iret dc_Mod_isDigit_17 rfl (bo_nar (Or.inl rfl)) h
  · have h := ite_f h hc
    refine pw_iload_n dc_Mod_isDigit_6 rfl ?_
    refine pw_bipush (v := 57) dc_Mod_isDigit_7 (by decide) ?_
    refine pw_icmp_gt (tgt := 16) dc_Mod_isDigit_9 (by decide) (fun hc => ?_) (fun hc => ?_)
    · have h := ite_t h hc
      refine pw_iconst (v := 0) dc_Mod_isDigit_16 (by decide) ?_
      exact pw_iret dc_Mod_isDigit_17 rfl (bo_nar (Or.inl rfl)) h
    · have h := ite_f h hc
      refine pw_iconst (v := 1) dc_Mod_isDigit_12 (by decide) ?_
      refine pw_goto (tgt := 17) dc_Mod_isDigit_13 (by decide) ?_
      exact pw_iret dc_Mod_isDigit_17 rfl (bo_nar (Or.inr rfl)) h
theorem dc_Mod_isCharacter_0 : decode M_Mod_isCharacter.2.1 0 = .ok (.iload_n 0, 1) := by decide +kernel
theorem dc_Mod_isCharacter_1 : decode M_Mod_isCharacter.2.1 1 = .ok (.invokestatic 148, 3) := by decide +kernel
theorem dc_Mod_isCharacter_4 : decode M_Mod_isCharacter.2.1 4 = .ok (.ifCond .ne 22, 3) := by decide +kernel
theorem dc_Mod_isCharacter_7 : decode M_Mod_isCharacter.2.1 7 = .ok (.iload_n 0, 1) := by decide +kernel
theorem dc_Mod_isCharacter_8 : decode M_Mod_isCharacter.2.1 8 = .ok (.bipush 32, 2) := by decide +kernel
theorem dc_Mod_isCharacter_10 : decode M_Mod_isCharacter.2.1 10 = .ok (.if_icmp .eq 16, 3) := by decide +kernel
theorem dc_Mod_isCharacter_13 : decode M_Mod_isCharacter.2.1 13 = .ok (.iload_n 0, 1) := by decide +kernel
theorem dc_Mod_isCharacter_14 : decode M_Mod_isCharacter.2.1 14 = .ok (.bipush 10, 2) := by decide +kernel
theorem dc_Mod_isCharacter_16 : decode M_Mod_isCharacter.2.1 16 = .ok (.if_icmp .eq 10, 3) := by decide +kernel
theorem dc_Mod_isCharacter_19 : decode M_Mod_isCharacter.2.1 19 = .ok (.iload_n 0, 1) := by decide +kernel
theorem dc_Mod_isCharacter_20 : decode M_Mod_isCharacter.2.1 20 = .ok (.invokestatic 152, 3) := by decide +kernel
theorem dc_Mod_isCharacter_23 : decode M_Mod_isCharacter.2.1 23 = .ok (.ifCond .lt 7, 3) := by decide +kernel
theorem dc_Mod_isCharacter_26 : decode M_Mod_isCharacter.2.1 26 = .ok (.iconst 1, 1) := by decide +kernel
theorem dc_Mod_isCharacter_27 : decode M_Mod_isCharacter.2.1 27 = .ok (.goto 4, 3) := by decide +kernel
theorem dc_Mod_isCharacter_30 : decode M_Mod_isCharacter.2.1 30 = .ok (.iconst 0, 1) := by decide +kernel
theorem dc_Mod_isCharacter_31 : decode M_Mod_isCharacter.2.1 31 = .ok (.ireturn, 1) := by decide +kernel
set_option maxRecDepth 20000 in
theorem e_Mod_isCharacter_0 {d : Nat} {σ : PH} {K : PO → PH → Prop} (x0 : Int32) (h : PW d M_Mod_isLetter 0 [.int x0] [] σ (kI (fun r1 σ1 => (if r1 = 0 then (if x0 = 32 then K (.inl (some (.int 1))) σ1 else (if x0 = 10 then K (.inl (some (.int 1))) σ1 else PW d M_Mod_figureOf 0 [.int x0, uu, uu] [] σ1 (kI (fun r2 σ2 => (if r2 < 0 then K (.inl (some (.int 0))) σ2 else K (.inl (some (.int 1))) σ2)) K))) else K (.inl (some (.int 1))) σ1)) K)) : PW (d + 1) M_Mod_isCharacter 0 [.int x0] [] σ K := by
  refine pw_iload_n dc_Mod_isCharacter_0 rfl ?_
  refine pw_callS (vs := [.int x0]) (st := []) dc_Mod_isCharacter_1 cq_Mod_isLetter (List.mem_of_getElem? (i := 1185) (by decide +kernel)) (List.mem_of_getElem? (i := 1184) (by decide +kernel)) rfl rfl (cat_cons rfl (cat_nil)) (Nat.le_of_ble_eq_true rfl) (PW.mono (kI_kN (fun r1 σ1 h => ?_)) h)
  refine pw_if_ne (tgt := 26) dc_Mod_isCharacter_4 (by decide) (fun hc => ?_) (fun hc => ?_)
  · have h := ite_f h hc
    refine pw_iconst (v := 1) dc_Mod_isCharacter_26 (by decide) ?_
    refine pw_goto (tgt := 31) dc_Mod_isCharacter_27 (by decide) ?_
    exact pw_iret dc_Mod_isCharacter_31 rfl (bo_nar (Or.inr rfl)) h
  · have h := ite_t h hc
    refine pw_iload_n dc_Mod_isCharacter_7 rfl ?_
    refine pw_bipush (v := 32) dc_Mod_isCharacter_8 (by decide) ?_
    refine pw_icmp_eq (tgt := 26) dc_Mod_isCharacter_10 (by decide) (fun hc => ?_) (fun hc => ?_)
    · have h := ite_t h hc
      refine pw_iconst (v := 1) dc_Mod_isCharacter_26 (by decide) ?_
      refine pw_goto (tgt := 31) dc_Mod_isCharacter_27 (by decide) ?_
      exact pw_iret dc_Mod_isCharacter_31 rfl (bo_nar (Or.inr rfl)) h
    · have h := ite_f h hc
      refine pw_iload_n dc_Mod_isCharacter_13 rfl ?_
      refine pw_bipush (v := 10) dc_Mod_isCharacter_14 (by decide) ?_
      refine pw_icmp_eq (tgt := 26) dc_Mod_isCharacter_16 (by decide) (fun hc => ?_) (fun hc => ?_)
      · have h := ite_t h hc
        refine pw_iconst (v := 1) dc_Mod_isCharacter_26 (by decide) ?_
        refine pw_goto (tgt := 31) dc_Mod_isCharacter_27 (by decide) ?_
        exact pw_iret dc_Mod_isCharacter_31 rfl (bo_nar (Or.inr rfl)) h
      · have h := ite_f h hc
        refine pw_iload_n dc_Mod_isCharacter_19 rfl ?_
        refine pw_callS (vs := [.int x0]) (st := []) dc_Mod_isCharacter_20 cq_Mod_figureOf (List.mem_of_getElem? (i := 1303) (by decide +kernel)) (List.mem_of_getElem? (i := 1302) (by decide +kernel)) rfl rfl (cat_cons rfl (cat_nil)) (Nat.le_of_ble_eq_true rfl) (PW.mono (kI_kN (fun r2 σ2 h => ?_)) h)
        refine pw_if_lt (tgt := 30) dc_Mod_isCharacter_23 (by decide) (fun hc => ?_) (fun hc => ?_)
        · have h := ite_t h hc
          refine pw_iconst (v := 0) dc_Mod_isCharacter_30 (by decide) ?_
          exact pw_iret dc_Mod_isCharacter_31 rfl (bo_nar (Or.inl rfl)) h
        · have h := ite_f h hc
          refine pw_iconst (v := 1) dc_Mod_isCharacter_26 (by decide) ?_
          refine pw_goto (tgt := 31) dc_Mod_isCharacter_27 (by decide) ?_
          exact pw_iret dc_Mod_isCharacter_31 rfl (bo_nar (Or.inr rfl)) h
theorem dc_Mod_gather_0 : decode M_Mod_gather.2.1 0 = .ok (.aload_n 0, 1) := by decide +kernel
theorem dc_Mod_gather_1 : decode M_Mod_gather.2.1 1 = .ok (.getfield 13, 3) := by decide +kernel
theorem dc_Mod_gather_4 : decode M_Mod_gather.2.1 4 = .ok (.iload_n 1, 1) := by decide +kernel
theorem dc_Mod_gather_5 : decode M_Mod_gather.2.1 5 = .ok (.iaload, 1) := by decide +kernel
theorem dc_Mod_gather_6 : decode M_Mod_gather.2.1 6 = .ok (.sipush 4096, 3) := by decide +kernel
theorem dc_Mod_gather_9 : decode M_Mod_gather.2.1 9 = .ok (.if_icmp .ge 31, 3) := by decide +kernel
theorem dc_Mod_gather_12 : decode M_Mod_gather.2.1 12 = .ok (.aload_n 0, 1) := by decide +kernel
theorem dc_Mod_gather_13 : decode M_Mod_gather.2.1 13 = .ok (.getfield 18, 3) := by decide +kernel
theorem dc_Mod_gather_16 : decode M_Mod_gather.2.1 16 = .ok (.sipush 4096, 3) := by decide +kernel
theorem dc_Mod_gather_19 : decode M_Mod_gather.2.1 19 = .ok (.iload_n 1, 1) := by decide +kernel
theorem dc_Mod_gather_20 : decode M_Mod_gather.2.1 20 = .ok (.imul, 1) := by decide +kernel
theorem dc_Mod_gather_21 : decode M_Mod_gather.2.1 21 = .ok (.aload_n 0, 1) := by decide +kernel
theorem dc_Mod_gather_22 : decode M_Mod_gather.2.1 22 = .ok (.getfield 13, 3) := by decide +kernel
theorem dc_Mod_gather_25 : decode M_Mod_gather.2.1 25 = .ok (.iload_n 1, 1) := by decide +kernel
theorem dc_Mod_gather_26 : decode M_Mod_gather.2.1 26 = .ok (.iaload, 1) := by decide +kernel
theorem dc_Mod_gather_27 : decode M_Mod_gather.2.1 27 = .ok (.iadd, 1) := by decide +kernel
theorem dc_Mod_gather_28 : decode M_Mod_gather.2.1 28 = .ok (.iload_n 2, 1) := by decide +kernel
theorem dc_Mod_gather_29 : decode M_Mod_gather.2.1 29 = .ok (.castore, 1) := by decide +kernel
theorem dc_Mod_gather_30 : decode M_Mod_gather.2.1 30 = .ok (.aload_n 0, 1) := by decide +kernel
theorem dc_Mod_gather_31 : decode M_Mod_gather.2.1 31 = .ok (.getfield 13, 3) := by decide +kernel
theorem dc_Mod_gather_34 : decode M_Mod_gather.2.1 34 = .ok (.iload_n 1, 1) := by decide +kernel
theorem dc_Mod_gather_35 : decode M_Mod_gather.2.1 35 = .ok (.dup2, 1) := by decide +kernel
theorem dc_Mod_gather_36 : decode M_Mod_gather.2.1 36 = .ok (.iaload, 1) := by decide +kernel
theorem dc_Mod_gather_37 : decode M_Mod_gather.2.1 37 = .ok (.iconst 1, 1) := by decide +kernel
theorem dc_Mod_gather_38 : decode M_Mod_gather.2.1 38 = .ok (.iadd, 1) := by decide +kernel
theorem dc_Mod_gather_39 : decode M_Mod_gather.2.1 39 = .ok (.iastore, 1) := by decide +kernel
theorem dc_Mod_gather_40 : decode M_Mod_gather.2.1 40 = .ok (.return_, 1) := by decide +kernel
set_option maxRecDepth 20000 in
theorem e_Mod_gather_0 {d : Nat} {σ : PH} {K : PO → PH → Prop} (x0 : Nat) (x1 : Int32) (x2 : Int32) (h : sh σ x0 = (1, 11) ∧ (∃ b1 : Nat, gR σ 706 x0 = some b1 ∧ (∃ n1 : Nat, sh σ b1 = (2, n1) ∧ vp_in x1 n1 ∧ (if 4096 ≤ (eI σ b1 (ix x1)) then K (.inl none) σ else (∃ b2 : Nat, gR σ 707 x0 = some b2 ∧ vp_in x1 n1 ∧ (∃ n2 : Nat, sh σ b2 = (3, n2) ∧ vp_in ((4096 * x1) + (eI σ b1 (ix x1))) n2 ∧ ch x2 ∧ (∀ σ1 : PH, σ1 = uI σ b2 (ix ((4096 * x1) + (eI σ b1 (ix x1)))) x2 → sh σ1 x0 = (1, 11) ∧ (∃ b3 : Nat, gR σ1 706 x0 = some b3 ∧ (∃ n3 : Nat, sh σ1 b3 = (2, n3) ∧ vp_in x1 n3 ∧ vp_in x1 n3 ∧ (∀ σ2 : PH, σ2 = uI σ1 b3 (ix x1) ((eI σ1 b3 (ix x1)) + 1) → K (.inl none) σ2)))))))))) : PW d M_Mod_gather 0 [.ref x0, .int x1, .int x2] [] σ K := by
  refine pw_aload_n dc_Mod_gather_0 rfl rfl ?_
  obtain ⟨hs1, h⟩ := h
  refine pw_getR (c := 11) (k := 2) (f := 706) dc_Mod_gather_1 fl_Mod_13 rfl rfl hs1 ?_
  obtain ⟨b1, hb1, h⟩ := h
  refine PW.top (v' := .ref b1) (congrArg va_rf hb1) ?_
  refine pw_iload_n dc_Mod_gather_4 rfl ?_
  obtain ⟨n1, hs2, h⟩ := h
  obtain ⟨hi1, h⟩ := h
  refine pw_iald dc_Mod_gather_5 hs2 hi1 ?_
  refine pw_sipush (v := 4096) dc_Mod_gather_6 (by decide) ?_
  refine pw_icmp_ge (tgt := 40) dc_Mod_gather_9 (by decide) (fun hc => ?_) (fun hc => ?_)
  · have h := ite_t h hc
    exact pw_vret dc_Mod_gather_40 rfl h
  · have h := ite_f h hc
    refine pw_aload_n dc_Mod_gather_12 rfl rfl ?_
    refine pw_getR (c := 11) (k := 3) (f := 707) dc_Mod_gather_13 fl_Mod_18 rfl rfl hs1 ?_
    obtain ⟨b2, hb2, h⟩ := h
    refine PW.top (v' := .ref b2) (congrArg va_rf hb2) ?_
    refine pw_sipush (v := 4096) dc_Mod_gather_16 (by decide) ?_
    refine pw_iload_n dc_Mod_gather_19 rfl ?_
    refine pw_imul dc_Mod_gather_20 ?_
    refine pw_aload_n dc_Mod_gather_21 rfl rfl ?_
    refine pw_getR (c := 11) (k := 2) (f := 706) dc_Mod_gather_22 fl_Mod_13 rfl rfl hs1 ?_
    refine PW.top (v' := .ref b1) (congrArg va_rf hb1) ?_
    refine pw_iload_n dc_Mod_gather_25 rfl ?_
    obtain ⟨hi2, h⟩ := h
    refine pw_iald dc_Mod_gather_26 hs2 hi2 ?_
    refine pw_iadd dc_Mod_gather_27 ?_
    refine pw_iload_n dc_Mod_gather_28 rfl ?_
    obtain ⟨n2, hs3, h⟩ := h
    obtain ⟨hi3, h⟩ := h
    obtain ⟨hc1, h⟩ := h
    have h := h _ rfl
    refine pw_cast dc_Mod_gather_29 hs3 hi3 hc1 ?_
    refine pw_aload_n dc_Mod_gather_30 rfl rfl ?_
    obtain ⟨hs4, h⟩ := h
    refine pw_getR (c := 11) (k := 2) (f := 706) dc_Mod_gather_31 fl_Mod_13 rfl rfl hs4 ?_
    obtain ⟨b3, hb3, h⟩ := h
    refine PW.top (v' := .ref b3) (congrArg va_rf hb3) ?_
    refine pw_iload_n dc_Mod_gather_34 rfl ?_
    refine pw_dup2 dc_Mod_gather_35 rfl rfl ?_
    obtain ⟨n3, hs5, h⟩ := h
    obtain ⟨hi4, h⟩ := h
    refine pw_iald dc_Mod_gather_36 hs5 hi4 ?_
    refine pw_iconst (v := 1) dc_Mod_gather_37 (by decide) ?_
    refine pw_iadd dc_Mod_gather_38 ?_
    obtain ⟨hi5, h⟩ := h
    have h := h _ rfl
    refine pw_iast dc_Mod_gather_39 hs5 hi5 ?_
    exact pw_vret dc_Mod_gather_40 rfl h
theorem dc_Mod_atEnd_0 : decode M_Mod_atEnd.2.1 0 = .ok (.aload_n 0, 1) := by decide +kernel
theorem dc_Mod_atEnd_1 : decode M_Mod_atEnd.2.1 1 = .ok (.getfield 18, 3) := by decide +kernel
theorem dc_Mod_atEnd_4 : decode M_Mod_atEnd.2.1 4 = .ok (.sipush 4096, 3) := by decide +kernel
theorem dc_Mod_atEnd_7 : decode M_Mod_atEnd.2.1 7 = .ok (.iload_n 1, 1) := by decide +kernel
theorem dc_Mod_atEnd_8 : decode M_Mod_atEnd.2.1 8 = .ok (.imul, 1) := by decide +kernel
theorem dc_Mod_atEnd_9 : decode M_Mod_atEnd.2.1 9 = .ok (.aload_n 0, 1) := by decide +kernel
theorem dc_Mod_atEnd_10 : decode M_Mod_atEnd.2.1 10 = .ok (.getfield 13, 3) := by decide +kernel
theorem dc_Mod_atEnd_13 : decode M_Mod_atEnd.2.1 13 = .ok (.iload_n 1, 1) := by decide +kernel
theorem dc_Mod_atEnd_14 : decode M_Mod_atEnd.2.1 14 = .ok (.iaload, 1) := by decide +kernel
theorem dc_Mod_atEnd_15 : decode M_Mod_atEnd.2.1 15 = .ok (.iadd, 1) := by decide +kernel
theorem dc_Mod_atEnd_16 : decode M_Mod_atEnd.2.1 16 = .ok (.iload_n 2, 1) := by decide +kernel
theorem dc_Mod_atEnd_17 : decode M_Mod_atEnd.2.1 17 = .ok (.isub, 1) := by decide +kernel
theorem dc_Mod_atEnd_18 : decode M_Mod_atEnd.2.1 18 = .ok (.caload, 1) := by decide +kernel
theorem dc_Mod_atEnd_19 : decode M_Mod_atEnd.2.1 19 = .ok (.ireturn, 1) := by decide +kernel
set_option maxRecDepth 20000 in
theorem e_Mod_atEnd_0 {d : Nat} {σ : PH} {K : PO → PH → Prop} (x0 : Nat) (x1 : Int32) (x2 : Int32) (h : sh σ x0 = (1, 11) ∧ (∃ b1 : Nat, gR σ 707 x0 = some b1 ∧ (∃ b2 : Nat, gR σ 706 x0 = some b2 ∧ (∃ n1 : Nat, sh σ b2 = (2, n1) ∧ vp_in x1 n1 ∧ (∃ n2 : Nat, sh σ b1 = (3, n2) ∧ vp_in (((4096 * x1) + (eI σ b2 (ix x1))) - x2) n2 ∧ ch (eI σ b1 (ix (((4096 * x1) + (eI σ b2 (ix x1))) - x2))) ∧ K (.inl (some (.int (eI σ b1 (ix (((4096 * x1) + (eI σ b2 (ix x1))) - x2)))))) σ))))) : PW d M_Mod_atEnd 0 [.ref x0, .int x1, .int x2] [] σ K := by
  refine pw_aload_n dc_Mod_atEnd_0 rfl rfl ?_
  obtain ⟨hs1, h⟩ := h
  refine pw_getR (c := 11) (k := 3) (f := 707) dc_Mod_atEnd_1 fl_Mod_18 rfl rfl hs1 ?_
  obtain ⟨b1, hb1, h⟩ := h
  refine PW.top (v' := .ref b1) (congrArg va_rf hb1) ?_
  refine pw_sipush (v := 4096) dc_Mod_atEnd_4 (by decide) ?_
  refine pw_iload_n dc_Mod_atEnd_7 rfl ?_
  refine pw_imul dc_Mod_atEnd_8 ?_
  refine pw_aload_n dc_Mod_atEnd_9 rfl rfl ?_
  refine pw_getR (c := 11) (k := 2) (f := 706) dc_Mod_atEnd_10 fl_Mod_13 rfl rfl hs1 ?_
  obtain ⟨b2, hb2, h⟩ := h
  refine PW.top (v' := .ref b2) (congrArg va_rf hb2) ?_
  refine pw_iload_n dc_Mod_atEnd_13 rfl ?_
  obtain ⟨n1, hs2, h⟩ := h
  obtain ⟨hi1, h⟩ := h
  refine pw_iald dc_Mod_atEnd_14 hs2 hi1 ?_
  refine pw_iadd dc_Mod_atEnd_15 ?_
  refine pw_iload_n dc_Mod_atEnd_16 rfl ?_
  refine pw_isub dc_Mod_atEnd_17 ?_
  obtain ⟨n2, hs3, h⟩ := h
  obtain ⟨hi2, h⟩ := h
  refine pw_cald dc_Mod_atEnd_18 hs3 hi2 ?_
  exact pw_iret dc_Mod_atEnd_19 rfl h.1 h.2
theorem dc_Mod_isEnd_0 : decode M_Mod_isEnd.2.1 0 = .ok (.aload_n 0, 1) := by decide +kernel
theorem dc_Mod_isEnd_1 : decode M_Mod_isEnd.2.1 1 = .ok (.getfield 13, 3) := by decide +kernel
theorem dc_Mod_isEnd_4 : decode M_Mod_isEnd.2.1 4 = .ok (.iload_n 1, 1) := by decide +kernel
theorem dc_Mod_isEnd_5 : decode M_Mod_isEnd.2.1 5 = .ok (.iaload, 1) := by decide +kernel
theorem dc_Mod_isEnd_6 : decode M_Mod_isEnd.2.1 6 = .ok (.iconst 5, 1) := by decide +kernel
theorem dc_Mod_isEnd_7 : decode M_Mod_isEnd.2.1 7 = .ok (.if_icmp .lt 14, 3) := by decide +kernel
theorem dc_Mod_isEnd_10 : decode M_Mod_isEnd.2.1 10 = .ok (.aload_n 0, 1) := by decide +kernel
theorem dc_Mod_isEnd_11 : decode M_Mod_isEnd.2.1 11 = .ok (.iload_n 1, 1) := by decide +kernel
theorem dc_Mod_isEnd_12 : decode M_Mod_isEnd.2.1 12 = .ok (.iconst 1, 1) := by decide +kernel
theorem dc_Mod_isEnd_13 : decode M_Mod_isEnd.2.1 13 = .ok (.invokevirtual 156, 3) := by decide +kernel
theorem dc_Mod_isEnd_16 : decode M_Mod_isEnd.2.1 16 = .ok (.bipush 10, 2) := by decide +kernel
theorem dc_Mod_isEnd_18 : decode M_Mod_isEnd.2.1 18 = .ok (.if_icmp .eq 5, 3) := by decide +kernel
theorem dc_Mod_isEnd_21 : decode M_Mod_isEnd.2.1 21 = .ok (.iconst 0, 1) := by decide +kernel
theorem dc_Mod_isEnd_22 : decode M_Mod_isEnd.2.1 22 = .ok (.ireturn, 1) := by decide +kernel
theorem dc_Mod_isEnd_23 : decode M_Mod_isEnd.2.1 23 = .ok (.aload_n 0, 1) := by decide +kernel
theorem dc_Mod_isEnd_24 : decode M_Mod_isEnd.2.1 24 = .ok (.getfield 13, 3) := by decide +kernel
theorem dc_Mod_isEnd_27 : decode M_Mod_isEnd.2.1 27 = .ok (.iload_n 1, 1) := by decide +kernel
theorem dc_Mod_isEnd_28 : decode M_Mod_isEnd.2.1 28 = .ok (.iaload, 1) := by decide +kernel
theorem dc_Mod_isEnd_29 : decode M_Mod_isEnd.2.1 29 = .ok (.iconst 5, 1) := by decide +kernel
theorem dc_Mod_isEnd_30 : decode M_Mod_isEnd.2.1 30 = .ok (.if_icmp .eq 15, 3) := by decide +kernel
theorem dc_Mod_isEnd_33 : decode M_Mod_isEnd.2.1 33 = .ok (.aload_n 0, 1) := by decide +kernel
theorem dc_Mod_isEnd_34 : decode M_Mod_isEnd.2.1 34 = .ok (.iload_n 1, 1) := by decide +kernel
theorem dc_Mod_isEnd_35 : decode M_Mod_isEnd.2.1 35 = .ok (.bipush 6, 2) := by decide +kernel
theorem dc_Mod_isEnd_37 : decode M_Mod_isEnd.2.1 37 = .ok (.invokevirtual 156, 3) := by decide +kernel
theorem dc_Mod_isEnd_40 : decode M_Mod_isEnd.2.1 40 = .ok (.bipush 10, 2) := by decide +kernel
theorem dc_Mod_isEnd_42 : decode M_Mod_isEnd.2.1 42 = .ok (.if_icmp .ne 7, 3) := by decide +kernel
theorem dc_Mod_isEnd_45 : decode M_Mod_isEnd.2.1 45 = .ok (.iconst 1, 1) := by decide +kernel
theorem dc_Mod_isEnd_46 : decode M_Mod_isEnd.2.1 46 = .ok (.goto 4, 3) := by decide +kernel
theorem dc_Mod_isEnd_49 : decode M_Mod_isEnd.2.1 49 = .ok (.iconst 0, 1) := by decide +kernel
theorem dc_Mod_isEnd_50 : decode M_Mod_isEnd.2.1 50 = .ok (.istore_n 2, 1) := by decide +kernel
theorem dc_Mod_isEnd_51 : decode M_Mod_isEnd.2.1 51 = .ok (.iconst 2, 1) := by decide +kernel
theorem dc_Mod_isEnd_52 : decode M_Mod_isEnd.2.1 52 = .ok (.istore_n 3, 1) := by decide +kernel
theorem dc_Mod_isEnd_53 : decode M_Mod_isEnd.2.1 53 = .ok (.iload_n 3, 1) := by decide +kernel
theorem dc_Mod_isEnd_54 : decode M_Mod_isEnd.2.1 54 = .ok (.bipush 6, 2) := by decide +kernel
theorem dc_Mod_isEnd_56 : decode M_Mod_isEnd.2.1 56 = .ok (.if_icmp .ge 30, 3) := by decide +kernel
theorem dc_Mod_isEnd_59 : decode M_Mod_isEnd.2.1 59 = .ok (.iload_n 2, 1) := by decide +kernel
theorem dc_Mod_isEnd_60 : decode M_Mod_isEnd.2.1 60 = .ok (.ifCond .eq 18, 3) := by decide +kernel
theorem dc_Mod_isEnd_63 : decode M_Mod_isEnd.2.1 63 = .ok (.aload_n 0, 1) := by decide +kernel
theorem dc_Mod_isEnd_64 : decode M_Mod_isEnd.2.1 64 = .ok (.iload_n 1, 1) := by decide +kernel
theorem dc_Mod_isEnd_65 : decode M_Mod_isEnd.2.1 65 = .ok (.iload_n 3, 1) := by decide +kernel
theorem dc_Mod_isEnd_66 : decode M_Mod_isEnd.2.1 66 = .ok (.invokevirtual 156, 3) := by decide +kernel
theorem dc_Mod_isEnd_69 : decode M_Mod_isEnd.2.1 69 = .ok (.bipush 78, 2) := by decide +kernel
theorem dc_Mod_isEnd_71 : decode M_Mod_isEnd.2.1 71 = .ok (.if_icmp .ne 7, 3) := by decide +kernel
theorem dc_Mod_isEnd_74 : decode M_Mod_isEnd.2.1 74 = .ok (.iconst 1, 1) := by decide +kernel
theorem dc_Mod_isEnd_75 : decode M_Mod_isEnd.2.1 75 = .ok (.goto 4, 3) := by decide +kernel
theorem dc_Mod_isEnd_78 : decode M_Mod_isEnd.2.1 78 = .ok (.iconst 0, 1) := by decide +kernel
theorem dc_Mod_isEnd_79 : decode M_Mod_isEnd.2.1 79 = .ok (.istore_n 2, 1) := by decide +kernel
theorem dc_Mod_isEnd_80 : decode M_Mod_isEnd.2.1 80 = .ok (.iinc 3 1, 3) := by decide +kernel
theorem dc_Mod_isEnd_83 : decode M_Mod_isEnd.2.1 83 = .ok (.goto (-30), 3) := by decide +kernel
theorem dc_Mod_isEnd_86 : decode M_Mod_isEnd.2.1 86 = .ok (.iload_n 2, 1) := by decide +kernel
theorem dc_Mod_isEnd_87 : decode M_Mod_isEnd.2.1 87 = .ok (.ireturn, 1) := by decide +kernel
set_option maxRecDepth 20000 in
theorem e_Mod_isEnd_0 {d : Nat} {σ : PH} {K : PO → PH → Prop} (x0 : Nat) (x1 : Int32) (h : sh σ x0 = (1, 11) ∧ (∃ b1 : Nat, gR σ 706 x0 = some b1 ∧ (∃ n1 : Nat, sh σ b1 = (2, n1) ∧ vp_in x1 n1 ∧ (if (eI σ b1 (ix x1)) < 5 then K (.inl (some (.int 0))) σ else PW d M_Mod_atEnd 0 [.ref x0, .int x1, .int 1] [] σ (kI (fun r1 σ1 => (if r1 = 10 then sh σ1 x0 = (1, 11) ∧ (∃ b2 : Nat, gR σ1 706 x0 = some b2 ∧ (∃ n2 : Nat, sh σ1 b2 = (2, n2) ∧ vp_in x1 n2 ∧ (if (eI σ1 b2 (ix x1)) = 5 then PW (d + 1) M_Mod_isEnd 45 [.ref x0, .int x1, uu, uu] [] σ1 K else PW d M_Mod_atEnd 0 [.ref x0, .int x1, .int 6] [] σ1 (kI (fun r2 σ2 => (if r2 = 10 then PW (d + 1) M_Mod_isEnd 45 [.ref x0, .int x1, uu, uu] [] σ2 K else PW (d + 1) M_Mod_isEnd 50 [.ref x0, .int x1, uu, uu] [.int 0] σ2 K)) K)))) else K (.inl (some (.int 0))) σ1)) K))))) : PW (d + 1) M_Mod_isEnd 0 [.ref x0, .int x1, uu, uu] [] σ K := by
  refine pw_aload_n dc_Mod_isEnd_0 rfl rfl ?_
  obtain ⟨hs1, h⟩ := h
  refine pw_getR (c := 11) (k := 2) (f := 706) dc_Mod_isEnd_1 fl_Mod_13 rfl rfl hs1 ?_
  obtain ⟨b1, hb1, h⟩ := h
  refine PW.top (v' := .ref b1) (congrArg va_rf hb1) ?_
  refine pw_iload_n dc_Mod_isEnd_4 rfl ?_
  obtain ⟨n1, hs2, h⟩ := h
  obtain ⟨hi1, h⟩ := h
  refine pw_iald dc_Mod_isEnd_5 hs2 hi1 ?_
  refine pw_iconst (v := 5) dc_Mod_isEnd_6 (by decide) ?_
  refine pw_icmp_lt (tgt := 21) dc_Mod_isEnd_7 (by decide) (fun hc => ?_) (fun hc => ?_)
  · have h := ite_t h hc
    refine pw_iconst (v := 0) dc_Mod_isEnd_21 (by decide) ?_
    exact pw_iret dc_Mod_isEnd_22 rfl (bo_nar (Or.inl rfl)) h
  · have h := ite_f h hc
    refine pw_aload_n dc_Mod_isEnd_10 rfl rfl ?_
    refine pw_iload_n dc_Mod_isEnd_11 rfl ?_
    refine pw_iconst (v := 1) dc_Mod_isEnd_12 (by decide) ?_
    refine pw_callV (vs := [.int x1, .int 1]) (st := []) (b := x0) (cn := 11) dc_Mod_isEnd_13 cq_Mod_atEnd (List.mem_of_getElem? (i := 1151) (by decide +kernel)) (List.mem_of_getElem? (i := 29) (by decide +kernel)) (List.mem_of_getElem? (i := 1149) (by decide +kernel)) rfl hs1 rfl rfl (by decide) (cat_cons rfl (cat_cons rfl (cat_nil))) (Nat.le_of_ble_eq_true rfl) (PW.mono (kI_kN (fun r1 σ1 h => ?_)) h)
    refine pw_bipush (v := 10) dc_Mod_isEnd_16 (by decide) ?_
    refine pw_icmp_eq (tgt := 23) dc_Mod_isEnd_18 (by decide) (fun hc => ?_) (fun hc => ?_)
    · have h := ite_t h hc
      refine pw_aload_n dc_Mod_isEnd_23 rfl rfl ?_
      obtain ⟨hs3, h⟩ := h
      refine pw_getR (c := 11) (k := 2) (f := 706) dc_Mod_isEnd_24 fl_Mod_13 rfl rfl hs3 ?_
      obtain ⟨b2, hb2, h⟩ := h
      refine PW.top (v' := .ref b2) (congrArg va_rf hb2) ?_
      refine pw_iload_n dc_Mod_isEnd_27 rfl ?_
      obtain ⟨n2, hs4, h⟩ := h
      obtain ⟨hi2, h⟩ := h
      refine pw_iald dc_Mod_isEnd_28 hs4 hi2 ?_
      refine pw_iconst (v := 5) dc_Mod_isEnd_29 (by decide) ?_
      refine pw_icmp_eq (tgt := 45) dc_Mod_isEnd_30 (by decide) (fun hc => ?_) (fun hc => ?_)
      · have h := ite_t h hc
        exact h
      · have h := ite_f h hc
        refine pw_aload_n dc_Mod_isEnd_33 rfl rfl ?_
        refine pw_iload_n dc_Mod_isEnd_34 rfl ?_
        refine pw_bipush (v := 6) dc_Mod_isEnd_35 (by decide) ?_
        refine pw_callV (vs := [.int x1, .int 6]) (st := []) (b := x0) (cn := 11) dc_Mod_isEnd_37 cq_Mod_atEnd (List.mem_of_getElem? (i := 1151) (by decide +kernel)) (List.mem_of_getElem? (i := 29) (by decide +kernel)) (List.mem_of_getElem? (i := 1149) (by decide +kernel)) rfl hs3 rfl rfl (by decide) (cat_cons rfl (cat_cons rfl (cat_nil))) (Nat.le_of_ble_eq_true rfl) (PW.mono (kI_kN (fun r2 σ2 h => ?_)) h)
        refine pw_bipush (v := 10) dc_Mod_isEnd_40 (by decide) ?_
        refine pw_icmp_ne (tgt := 49) dc_Mod_isEnd_42 (by decide) (fun hc => ?_) (fun hc => ?_)
        · have h := ite_f h hc
          refine pw_iconst (v := 0) dc_Mod_isEnd_49 (by decide) ?_
          exact h
        · have h := ite_t h hc
          exact h
    · have h := ite_f h hc
      refine pw_iconst (v := 0) dc_Mod_isEnd_21 (by decide) ?_
      exact pw_iret dc_Mod_isEnd_22 rfl (bo_nar (Or.inl rfl)) h
set_option maxRecDepth 20000 in
theorem e_Mod_isEnd_45 {d : Nat} {σ : PH} {K : PO → PH → Prop} (x0 : Nat) (x1 : Int32) (h : PW (d + 1) M_Mod_isEnd 50 [.ref x0, .int x1, uu, uu] [.int 1] σ K) : PW (d + 1) M_Mod_isEnd 45 [.ref x0, .int x1, uu, uu] [] σ K := by
  refine pw_iconst (v := 1) dc_Mod_isEnd_45 (by decide) ?_
  refine pw_goto (tgt := 50) dc_Mod_isEnd_46 (by decide) ?_
  exact h
set_option maxRecDepth 20000 in
theorem e_Mod_isEnd_50 {d : Nat} {σ : PH} {K : PO → PH → Prop} (x0 : Nat) (x1 : Int32) (y0 : Int32) (h : PW (d + 1) M_Mod_isEnd 53 [.ref x0, .int x1, .int y0, .int 2] [] σ K) : PW (d + 1) M_Mod_isEnd 50 [.ref x0, .int x1, uu, uu] [.int y0] σ K := by
  refine pw_istore_n dc_Mod_isEnd_50 (by decide) ?_
  refine pw_iconst (v := 2) dc_Mod_isEnd_51 (by decide) ?_
  refine pw_istore_n dc_Mod_isEnd_52 (by decide) ?_
  exact h
set_option maxRecDepth 20000 in
theorem e_Mod_isEnd_53 {d : Nat} {σ : PH} {K : PO → PH → Prop} (x0 : Nat) (x1 : Int32) (x2 : Int32) (x3 : Int32) (h : (if 6 ≤ x3 then bo x2 ∧ K (.inl (some (.int x2))) σ else (if x2 = 0 then PW (d + 1) M_Mod_isEnd 78 [.ref x0, .int x1, uu, .int x3] [] σ K else sh σ x0 = (1, 11) ∧ PW d M_Mod_atEnd 0 [.ref x0, .int x1, .int x3] [] σ (kI (fun r1 σ1 => (if r1 = 78 then PW (d + 1) M_Mod_isEnd 79 [.ref x0, .int x1, uu, .int x3] [.int 1] σ1 K else PW (d + 1) M_Mod_isEnd 78 [.ref x0, .int x1, uu, .int x3] [] σ1 K)) K)))) : PW (d + 1) M_Mod_isEnd 53 [.ref x0, .int x1, .int x2, .int x3] [] σ K := by
  refine pw_iload_n dc_Mod_isEnd_53 rfl ?_
  refine pw_bipush (v := 6) dc_Mod_isEnd_54 (by decide) ?_
  refine pw_icmp_ge (tgt := 86) dc_Mod_isEnd_56 (by decide) (fun hc => ?_) (fun hc => ?_)
  · have h := ite_t h hc
    refine pw_iload_n dc_Mod_isEnd_86 rfl ?_
    exact pw_iret dc_Mod_isEnd_87 rfl (bo_nar h.1) h.2
  · have h := ite_f h hc
    refine pw_iload_n dc_Mod_isEnd_59 rfl ?_
    refine pw_if_eq (tgt := 78) dc_Mod_isEnd_60 (by decide) (fun hc => ?_) (fun hc => ?_)
    · have h := ite_t h hc
      refine PW.drop (ls' := [.ref x0, .int x1, uu, .int x3]) ⟨Or.inl rfl, Or.inl rfl, Or.inr rfl, Or.inl rfl, trivial⟩ ?_
      exact h
    · have h := ite_f h hc
      refine pw_aload_n dc_Mod_isEnd_63 rfl rfl ?_
      refine pw_iload_n dc_Mod_isEnd_64 rfl ?_
      refine pw_iload_n dc_Mod_isEnd_65 rfl ?_
      obtain ⟨hs1, h⟩ := h
      refine pw_callV (vs := [.int x1, .int x3]) (st := []) (b := x0) (cn := 11) dc_Mod_isEnd_66 cq_Mod_atEnd (List.mem_of_getElem? (i := 1151) (by decide +kernel)) (List.mem_of_getElem? (i := 29) (by decide +kernel)) (List.mem_of_getElem? (i := 1149) (by decide +kernel)) rfl hs1 rfl rfl (by decide) (cat_cons rfl (cat_cons rfl (cat_nil))) (Nat.le_of_ble_eq_true rfl) (PW.mono (kI_kN (fun r1 σ1 h => ?_)) h)
      refine pw_bipush (v := 78) dc_Mod_isEnd_69 (by decide) ?_
      refine pw_icmp_ne (tgt := 78) dc_Mod_isEnd_71 (by decide) (fun hc => ?_) (fun hc => ?_)
      · have h := ite_f h hc
        refine PW.drop (ls' := [.ref x0, .int x1, uu, .int x3]) ⟨Or.inl rfl, Or.inl rfl, Or.inr rfl, Or.inl rfl, trivial⟩ ?_
        exact h
      · have h := ite_t h hc
        refine pw_iconst (v := 1) dc_Mod_isEnd_74 (by decide) ?_
        refine pw_goto (tgt := 79) dc_Mod_isEnd_75 (by decide) ?_
        refine PW.drop (ls' := [.ref x0, .int x1, uu, .int x3]) ⟨Or.inl rfl, Or.inl rfl, Or.inr rfl, Or.inl rfl, trivial⟩ ?_
        exact h
set_option maxRecDepth 20000 in
theorem e_Mod_isEnd_78 {d : Nat} {σ : PH} {K : PO → PH → Prop} (x0 : Nat) (x1 : Int32) (x3 : Int32) (h : PW (d + 1) M_Mod_isEnd 79 [.ref x0, .int x1, uu, .int x3] [.int 0] σ K) : PW (d + 1) M_Mod_isEnd 78 [.ref x0, .int x1, uu, .int x3] [] σ K := by
  refine pw_iconst (v := 0) dc_Mod_isEnd_78 (by decide) ?_
  exact h
set_option maxRecDepth 20000 in
theorem e_Mod_isEnd_79 {d : Nat} {σ : PH} {K : PO → PH → Prop} (x0 : Nat) (x1 : Int32) (x3 : Int32) (y0 : Int32) (h : PW (d + 1) M_Mod_isEnd 53 [.ref x0, .int x1, .int y0, .int (x3 + 1)] [] σ K) : PW (d + 1) M_Mod_isEnd 79 [.ref x0, .int x1, uu, .int x3] [.int y0] σ K := by
  refine pw_istore_n dc_Mod_isEnd_79 (by decide) ?_
  refine pw_iincv (v := 1) dc_Mod_isEnd_80 (by decide) rfl (by decide) ?_
  refine pw_goto (tgt := 53) dc_Mod_isEnd_83 (by decide) ?_
  exact h
theorem dc_Mod_forget_0 : decode M_Mod_forget.2.1 0 = .ok (.aload_n 0, 1) := by decide +kernel
theorem dc_Mod_forget_1 : decode M_Mod_forget.2.1 1 = .ok (.getfield 13, 3) := by decide +kernel
theorem dc_Mod_forget_4 : decode M_Mod_forget.2.1 4 = .ok (.iload_n 1, 1) := by decide +kernel
theorem dc_Mod_forget_5 : decode M_Mod_forget.2.1 5 = .ok (.iconst 0, 1) := by decide +kernel
theorem dc_Mod_forget_6 : decode M_Mod_forget.2.1 6 = .ok (.iastore, 1) := by decide +kernel
theorem dc_Mod_forget_7 : decode M_Mod_forget.2.1 7 = .ok (.aload_n 0, 1) := by decide +kernel
theorem dc_Mod_forget_8 : decode M_Mod_forget.2.1 8 = .ok (.getfield 22, 3) := by decide +kernel
theorem dc_Mod_forget_11 : decode M_Mod_forget.2.1 11 = .ok (.iload_n 1, 1) := by decide +kernel
theorem dc_Mod_forget_12 : decode M_Mod_forget.2.1 12 = .ok (.iconst 0, 1) := by decide +kernel
theorem dc_Mod_forget_13 : decode M_Mod_forget.2.1 13 = .ok (.bastore, 1) := by decide +kernel
theorem dc_Mod_forget_14 : decode M_Mod_forget.2.1 14 = .ok (.return_, 1) := by decide +kernel
set_option maxRecDepth 20000 in
theorem e_Mod_forget_0 {d : Nat} {σ : PH} {K : PO → PH → Prop} (x0 : Nat) (x1 : Int32) (h : sh σ x0 = (1, 11) ∧ (∃ b1 : Nat, gR σ 706 x0 = some b1 ∧ (∃ n1 : Nat, sh σ b1 = (2, n1) ∧ vp_in x1 n1 ∧ (∀ σ1 : PH, σ1 = uI σ b1 (ix x1) 0 → sh σ1 x0 = (1, 11) ∧ (∃ b2 : Nat, gR σ1 708 x0 = some b2 ∧ (∃ n2 : Nat, sh σ1 b2 = (4, n2) ∧ vp_in x1 n2 ∧ (∀ σ2 : PH, σ2 = uI σ1 b2 (ix x1) 0 → K (.inl none) σ2))))))) : PW d M_Mod_forget 0 [.ref x0, .int x1] [] σ K := by
  refine pw_aload_n dc_Mod_forget_0 rfl rfl ?_
  obtain ⟨hs1, h⟩ := h
  refine pw_getR (c := 11) (k := 2) (f := 706) dc_Mod_forget_1 fl_Mod_13 rfl rfl hs1 ?_
  obtain ⟨b1, hb1, h⟩ := h
  refine PW.top (v' := .ref b1) (congrArg va_rf hb1) ?_
  refine pw_iload_n dc_Mod_forget_4 rfl ?_
  refine pw_iconst (v := 0) dc_Mod_forget_5 (by decide) ?_
  obtain ⟨n1, hs2, h⟩ := h
  obtain ⟨hi1, h⟩ := h
  have h := h _ rfl
  refine pw_iast dc_Mod_forget_6 hs2 hi1 ?_
  refine pw_aload_n dc_Mod_forget_7 rfl rfl ?_
  obtain ⟨hs3, h⟩ := h
  refine pw_getR (c := 11) (k := 4) (f := 708) dc_Mod_forget_8 fl_Mod_22 rfl rfl hs3 ?_
  obtain ⟨b2, hb2, h⟩ := h
  refine PW.top (v' := .ref b2) (congrArg va_rf hb2) ?_
  refine pw_iload_n dc_Mod_forget_11 rfl ?_
  refine pw_iconst (v := 0) dc_Mod_forget_12 (by decide) ?_
  obtain ⟨n2, hs4, h⟩ := h
  obtain ⟨hi2, h⟩ := h
  have h := h _ rfl
  refine pw_zast dc_Mod_forget_13 hs4 hi2 (Or.inl rfl) ?_
  exact pw_vret dc_Mod_forget_14 rfl h
theorem dc_Mod_sign_0 : decode M_Mod_sign.2.1 0 = .ok (.aload_n 0, 1) := by decide +kernel
theorem dc_Mod_sign_1 : decode M_Mod_sign.2.1 1 = .ok (.iload_n 1, 1) := by decide +kernel
theorem dc_Mod_sign_2 : decode M_Mod_sign.2.1 2 = .ok (.invokestatic 160, 3) := by decide +kernel
theorem dc_Mod_sign_5 : decode M_Mod_sign.2.1 5 = .ok (.ifCond .eq 17, 3) := by decide +kernel
theorem dc_Mod_sign_8 : decode M_Mod_sign.2.1 8 = .ok (.iload_n 2, 1) := by decide +kernel
theorem dc_Mod_sign_9 : decode M_Mod_sign.2.1 9 = .ok (.iconst 0, 1) := by decide +kernel
theorem dc_Mod_sign_10 : decode M_Mod_sign.2.1 10 = .ok (.bipush 31, 2) := by decide +kernel
theorem dc_Mod_sign_12 : decode M_Mod_sign.2.1 12 = .ok (.invokestatic 140, 3) := by decide +kernel
theorem dc_Mod_sign_15 : decode M_Mod_sign.2.1 15 = .ok (.ifCond .eq 7, 3) := by decide +kernel
theorem dc_Mod_sign_18 : decode M_Mod_sign.2.1 18 = .ok (.iconst 0, 1) := by decide +kernel
theorem dc_Mod_sign_19 : decode M_Mod_sign.2.1 19 = .ok (.goto 4, 3) := by decide +kernel
theorem dc_Mod_sign_22 : decode M_Mod_sign.2.1 22 = .ok (.iconst 1, 1) := by decide +kernel
theorem dc_Mod_sign_23 : decode M_Mod_sign.2.1 23 = .ok (.invokevirtual 164, 3) := by decide +kernel
theorem dc_Mod_sign_26 : decode M_Mod_sign.2.1 26 = .ok (.ifCond .eq 5, 3) := by decide +kernel
theorem dc_Mod_sign_29 : decode M_Mod_sign.2.1 29 = .ok (.iconst 0, 1) := by decide +kernel
theorem dc_Mod_sign_30 : decode M_Mod_sign.2.1 30 = .ok (.ireturn, 1) := by decide +kernel
theorem dc_Mod_sign_31 : decode M_Mod_sign.2.1 31 = .ok (.aload_n 0, 1) := by decide +kernel
theorem dc_Mod_sign_32 : decode M_Mod_sign.2.1 32 = .ok (.getfield 7, 3) := by decide +kernel
theorem dc_Mod_sign_35 : decode M_Mod_sign.2.1 35 = .ok (.iload_n 1, 1) := by decide +kernel
theorem dc_Mod_sign_36 : decode M_Mod_sign.2.1 36 = .ok (.baload, 1) := by decide +kernel
theorem dc_Mod_sign_37 : decode M_Mod_sign.2.1 37 = .ok (.ifCond .eq 5, 3) := by decide +kernel
theorem dc_Mod_sign_40 : decode M_Mod_sign.2.1 40 = .ok (.iconst (-1), 1) := by decide +kernel
theorem dc_Mod_sign_41 : decode M_Mod_sign.2.1 41 = .ok (.ireturn, 1) := by decide +kernel
theorem dc_Mod_sign_42 : decode M_Mod_sign.2.1 42 = .ok (.iload_n 2, 1) := by decide +kernel
theorem dc_Mod_sign_43 : decode M_Mod_sign.2.1 43 = .ok (.bipush 26, 2) := by decide +kernel
theorem dc_Mod_sign_45 : decode M_Mod_sign.2.1 45 = .ok (.if_icmp .ne 13, 3) := by decide +kernel
theorem dc_Mod_sign_48 : decode M_Mod_sign.2.1 48 = .ok (.aload_n 0, 1) := by decide +kernel
theorem dc_Mod_sign_49 : decode M_Mod_sign.2.1 49 = .ok (.iload_n 1, 1) := by decide +kernel
theorem dc_Mod_sign_50 : decode M_Mod_sign.2.1 50 = .ok (.bipush 32, 2) := by decide +kernel
theorem dc_Mod_sign_52 : decode M_Mod_sign.2.1 52 = .ok (.invokevirtual 167, 3) := by decide +kernel
theorem dc_Mod_sign_55 : decode M_Mod_sign.2.1 55 = .ok (.goto 94, 3) := by decide +kernel
theorem dc_Mod_sign_58 : decode M_Mod_sign.2.1 58 = .ok (.iload_n 2, 1) := by decide +kernel
theorem dc_Mod_sign_59 : decode M_Mod_sign.2.1 59 = .ok (.bipush 27, 2) := by decide +kernel
theorem dc_Mod_sign_61 : decode M_Mod_sign.2.1 61 = .ok (.if_icmp .ne 13, 3) := by decide +kernel
theorem dc_Mod_sign_64 : decode M_Mod_sign.2.1 64 = .ok (.aload_n 0, 1) := by decide +kernel
theorem dc_Mod_sign_65 : decode M_Mod_sign.2.1 65 = .ok (.iload_n 1, 1) := by decide +kernel
theorem dc_Mod_sign_66 : decode M_Mod_sign.2.1 66 = .ok (.bipush 10, 2) := by decide +kernel
theorem dc_Mod_sign_68 : decode M_Mod_sign.2.1 68 = .ok (.invokevirtual 167, 3) := by decide +kernel
theorem dc_Mod_sign_71 : decode M_Mod_sign.2.1 71 = .ok (.goto 78, 3) := by decide +kernel
theorem dc_Mod_sign_74 : decode M_Mod_sign.2.1 74 = .ok (.iload_n 2, 1) := by decide +kernel
theorem dc_Mod_sign_75 : decode M_Mod_sign.2.1 75 = .ok (.bipush 28, 2) := by decide +kernel
theorem dc_Mod_sign_77 : decode M_Mod_sign.2.1 77 = .ok (.if_icmp .ne 13, 3) := by decide +kernel
theorem dc_Mod_sign_80 : decode M_Mod_sign.2.1 80 = .ok (.aload_n 0, 1) := by decide +kernel
theorem dc_Mod_sign_81 : decode M_Mod_sign.2.1 81 = .ok (.getfield 22, 3) := by decide +kernel
theorem dc_Mod_sign_84 : decode M_Mod_sign.2.1 84 = .ok (.iload_n 1, 1) := by decide +kernel
theorem dc_Mod_sign_85 : decode M_Mod_sign.2.1 85 = .ok (.iconst 0, 1) := by decide +kernel
theorem dc_Mod_sign_86 : decode M_Mod_sign.2.1 86 = .ok (.bastore, 1) := by decide +kernel
theorem dc_Mod_sign_87 : decode M_Mod_sign.2.1 87 = .ok (.goto 62, 3) := by decide +kernel
theorem dc_Mod_sign_90 : decode M_Mod_sign.2.1 90 = .ok (.iload_n 2, 1) := by decide +kernel
theorem dc_Mod_sign_91 : decode M_Mod_sign.2.1 91 = .ok (.bipush 29, 2) := by decide +kernel
theorem dc_Mod_sign_93 : decode M_Mod_sign.2.1 93 = .ok (.if_icmp .ne 13, 3) := by decide +kernel
theorem dc_Mod_sign_96 : decode M_Mod_sign.2.1 96 = .ok (.aload_n 0, 1) := by decide +kernel
theorem dc_Mod_sign_97 : decode M_Mod_sign.2.1 97 = .ok (.getfield 22, 3) := by decide +kernel
theorem dc_Mod_sign_100 : decode M_Mod_sign.2.1 100 = .ok (.iload_n 1, 1) := by decide +kernel
theorem dc_Mod_sign_101 : decode M_Mod_sign.2.1 101 = .ok (.iconst 1, 1) := by decide +kernel
theorem dc_Mod_sign_102 : decode M_Mod_sign.2.1 102 = .ok (.bastore, 1) := by decide +kernel
theorem dc_Mod_sign_103 : decode M_Mod_sign.2.1 103 = .ok (.goto 46, 3) := by decide +kernel
theorem dc_Mod_sign_106 : decode M_Mod_sign.2.1 106 = .ok (.iload_n 2, 1) := by decide +kernel
theorem dc_Mod_sign_107 : decode M_Mod_sign.2.1 107 = .ok (.bipush 26, 2) := by decide +kernel
theorem dc_Mod_sign_109 : decode M_Mod_sign.2.1 109 = .ok (.if_icmp .ge 25, 3) := by decide +kernel
theorem dc_Mod_sign_112 : decode M_Mod_sign.2.1 112 = .ok (.aload_n 0, 1) := by decide +kernel
theorem dc_Mod_sign_113 : decode M_Mod_sign.2.1 113 = .ok (.getfield 22, 3) := by decide +kernel
theorem dc_Mod_sign_116 : decode M_Mod_sign.2.1 116 = .ok (.iload_n 1, 1) := by decide +kernel
theorem dc_Mod_sign_117 : decode M_Mod_sign.2.1 117 = .ok (.baload, 1) := by decide +kernel
theorem dc_Mod_sign_118 : decode M_Mod_sign.2.1 118 = .ok (.ifCond .ne 16, 3) := by decide +kernel
theorem dc_Mod_sign_121 : decode M_Mod_sign.2.1 121 = .ok (.aload_n 0, 1) := by decide +kernel
theorem dc_Mod_sign_122 : decode M_Mod_sign.2.1 122 = .ok (.iload_n 1, 1) := by decide +kernel
theorem dc_Mod_sign_123 : decode M_Mod_sign.2.1 123 = .ok (.bipush 65, 2) := by decide +kernel
theorem dc_Mod_sign_125 : decode M_Mod_sign.2.1 125 = .ok (.iload_n 2, 1) := by decide +kernel
theorem dc_Mod_sign_126 : decode M_Mod_sign.2.1 126 = .ok (.iadd, 1) := by decide +kernel
theorem dc_Mod_sign_127 : decode M_Mod_sign.2.1 127 = .ok (.i2c, 1) := by decide +kernel
theorem dc_Mod_sign_128 : decode M_Mod_sign.2.1 128 = .ok (.invokevirtual 167, 3) := by decide +kernel
theorem dc_Mod_sign_131 : decode M_Mod_sign.2.1 131 = .ok (.goto 18, 3) := by decide +kernel
theorem dc_Mod_sign_134 : decode M_Mod_sign.2.1 134 = .ok (.iload_n 2, 1) := by decide +kernel
theorem dc_Mod_sign_135 : decode M_Mod_sign.2.1 135 = .ok (.bipush 20, 2) := by decide +kernel
theorem dc_Mod_sign_137 : decode M_Mod_sign.2.1 137 = .ok (.if_icmp .gt 12, 3) := by decide +kernel
theorem dc_Mod_sign_140 : decode M_Mod_sign.2.1 140 = .ok (.aload_n 0, 1) := by decide +kernel
theorem dc_Mod_sign_141 : decode M_Mod_sign.2.1 141 = .ok (.iload_n 1, 1) := by decide +kernel
theorem dc_Mod_sign_142 : decode M_Mod_sign.2.1 142 = .ok (.iload_n 2, 1) := by decide +kernel
theorem dc_Mod_sign_143 : decode M_Mod_sign.2.1 143 = .ok (.invokestatic 144, 3) := by decide +kernel
theorem dc_Mod_sign_146 : decode M_Mod_sign.2.1 146 = .ok (.invokevirtual 167, 3) := by decide +kernel
theorem dc_Mod_sign_149 : decode M_Mod_sign.2.1 149 = .ok (.iload_n 2, 1) := by decide +kernel
theorem dc_Mod_sign_150 : decode M_Mod_sign.2.1 150 = .ok (.bipush 27, 2) := by decide +kernel
theorem dc_Mod_sign_152 : decode M_Mod_sign.2.1 152 = .ok (.if_icmp .ne 11, 3) := by decide +kernel
theorem dc_Mod_sign_155 : decode M_Mod_sign.2.1 155 = .ok (.aload_n 0, 1) := by decide +kernel
theorem dc_Mod_sign_156 : decode M_Mod_sign.2.1 156 = .ok (.iload_n 1, 1) := by decide +kernel
theorem dc_Mod_sign_157 : decode M_Mod_sign.2.1 157 = .ok (.invokevirtual 171, 3) := by decide +kernel
theorem dc_Mod_sign_160 : decode M_Mod_sign.2.1 160 = .ok (.ifCond .ne 5, 3) := by decide +kernel
theorem dc_Mod_sign_163 : decode M_Mod_sign.2.1 163 = .ok (.iconst 0, 1) := by decide +kernel
theorem dc_Mod_sign_164 : decode M_Mod_sign.2.1 164 = .ok (.ireturn, 1) := by decide +kernel
theorem dc_Mod_sign_165 : decode M_Mod_sign.2.1 165 = .ok (.aload_n 0, 1) := by decide +kernel
theorem dc_Mod_sign_166 : decode M_Mod_sign.2.1 166 = .ok (.getfield 13, 3) := by decide +kernel
theorem dc_Mod_sign_169 : decode M_Mod_sign.2.1 169 = .ok (.iload_n 1, 1) := by decide +kernel
theorem dc_Mod_sign_170 : decode M_Mod_sign.2.1 170 = .ok (.iaload, 1) := by decide +kernel
theorem dc_Mod_sign_171 : decode M_Mod_sign.2.1 171 = .ok (.iconst 5, 1) := by decide +kernel
theorem dc_Mod_sign_172 : decode M_Mod_sign.2.1 172 = .ok (.isub, 1) := by decide +kernel
theorem dc_Mod_sign_173 : decode M_Mod_sign.2.1 173 = .ok (.istore_n 3, 1) := by decide +kernel
theorem dc_Mod_sign_174 : decode M_Mod_sign.2.1 174 = .ok (.aload_n 0, 1) := by decide +kernel
theorem dc_Mod_sign_175 : decode M_Mod_sign.2.1 175 = .ok (.iload_n 3, 1) := by decide +kernel
theorem dc_Mod_sign_176 : decode M_Mod_sign.2.1 176 = .ok (.bipush 60, 2) := by decide +kernel
theorem dc_Mod_sign_178 : decode M_Mod_sign.2.1 178 = .ok (.if_icmp .le 7, 3) := by decide +kernel
theorem dc_Mod_sign_181 : decode M_Mod_sign.2.1 181 = .ok (.iconst 1, 1) := by decide +kernel
theorem dc_Mod_sign_182 : decode M_Mod_sign.2.1 182 = .ok (.goto 4, 3) := by decide +kernel
theorem dc_Mod_sign_185 : decode M_Mod_sign.2.1 185 = .ok (.iconst 0, 1) := by decide +kernel
theorem dc_Mod_sign_186 : decode M_Mod_sign.2.1 186 = .ok (.putfield 174, 3) := by decide +kernel
theorem dc_Mod_sign_189 : decode M_Mod_sign.2.1 189 = .ok (.aload_n 0, 1) := by decide +kernel
theorem dc_Mod_sign_190 : decode M_Mod_sign.2.1 190 = .ok (.aload_n 0, 1) := by decide +kernel
theorem dc_Mod_sign_191 : decode M_Mod_sign.2.1 191 = .ok (.getfield 174, 3) := by decide +kernel
theorem dc_Mod_sign_194 : decode M_Mod_sign.2.1 194 = .ok (.ifCond .eq 8, 3) := by decide +kernel
theorem dc_Mod_sign_197 : decode M_Mod_sign.2.1 197 = .ok (.bipush 60, 2) := by decide +kernel
theorem dc_Mod_sign_199 : decode M_Mod_sign.2.1 199 = .ok (.goto 4, 3) := by decide +kernel
theorem dc_Mod_sign_202 : decode M_Mod_sign.2.1 202 = .ok (.iload_n 3, 1) := by decide +kernel
theorem dc_Mod_sign_203 : decode M_Mod_sign.2.1 203 = .ok (.putfield 178, 3) := by decide +kernel
theorem dc_Mod_sign_206 : decode M_Mod_sign.2.1 206 = .ok (.iconst 0, 1) := by decide +kernel
theorem dc_Mod_sign_207 : decode M_Mod_sign.2.1 207 = .ok (.istore 4, 2) := by decide +kernel
theorem dc_Mod_sign_209 : decode M_Mod_sign.2.1 209 = .ok (.iload 4, 2) := by decide +kernel
theorem dc_Mod_sign_211 : decode M_Mod_sign.2.1 211 = .ok (.aload_n 0, 1) := by decide +kernel
theorem dc_Mod_sign_212 : decode M_Mod_sign.2.1 212 = .ok (.getfield 178, 3) := by decide +kernel
theorem dc_Mod_sign_215 : decode M_Mod_sign.2.1 215 = .ok (.if_icmp .ge 29, 3) := by decide +kernel
theorem dc_Mod_sign_218 : decode M_Mod_sign.2.1 218 = .ok (.aload_n 0, 1) := by decide +kernel
theorem dc_Mod_sign_219 : decode M_Mod_sign.2.1 219 = .ok (.getfield 115, 3) := by decide +kernel
theorem dc_Mod_sign_222 : decode M_Mod_sign.2.1 222 = .ok (.iload 4, 2) := by decide +kernel
theorem dc_Mod_sign_224 : decode M_Mod_sign.2.1 224 = .ok (.aload_n 0, 1) := by decide +kernel
theorem dc_Mod_sign_225 : decode M_Mod_sign.2.1 225 = .ok (.getfield 18, 3) := by decide +kernel
theorem dc_Mod_sign_228 : decode M_Mod_sign.2.1 228 = .ok (.sipush 4096, 3) := by decide +kernel
theorem dc_Mod_sign_231 : decode M_Mod_sign.2.1 231 = .ok (.iload_n 1, 1) := by decide +kernel
theorem dc_Mod_sign_232 : decode M_Mod_sign.2.1 232 = .ok (.imul, 1) := by decide +kernel
theorem dc_Mod_sign_233 : decode M_Mod_sign.2.1 233 = .ok (.iload 4, 2) := by decide +kernel
theorem dc_Mod_sign_235 : decode M_Mod_sign.2.1 235 = .ok (.iadd, 1) := by decide +kernel
theorem dc_Mod_sign_236 : decode M_Mod_sign.2.1 236 = .ok (.caload, 1) := by decide +kernel
theorem dc_Mod_sign_237 : decode M_Mod_sign.2.1 237 = .ok (.castore, 1) := by decide +kernel
theorem dc_Mod_sign_238 : decode M_Mod_sign.2.1 238 = .ok (.iinc 4 1, 3) := by decide +kernel
theorem dc_Mod_sign_241 : decode M_Mod_sign.2.1 241 = .ok (.goto (-32), 3) := by decide +kernel
theorem dc_Mod_sign_244 : decode M_Mod_sign.2.1 244 = .ok (.aload_n 0, 1) := by decide +kernel
theorem dc_Mod_sign_245 : decode M_Mod_sign.2.1 245 = .ok (.iload_n 1, 1) := by decide +kernel
theorem dc_Mod_sign_246 : decode M_Mod_sign.2.1 246 = .ok (.invokevirtual 181, 3) := by decide +kernel
theorem dc_Mod_sign_249 : decode M_Mod_sign.2.1 249 = .ok (.aload_n 0, 1) := by decide +kernel
theorem dc_Mod_sign_250 : decode M_Mod_sign.2.1 250 = .ok (.iload_n 1, 1) := by decide +kernel
theorem dc_Mod_sign_251 : decode M_Mod_sign.2.1 251 = .ok (.invokevirtual 185, 3) := by decide +kernel
theorem dc_Mod_sign_254 : decode M_Mod_sign.2.1 254 = .ok (.ireturn, 1) := by decide +kernel
set_option maxRecDepth 20000 in
theorem e_Mod_sign_0 {d : Nat} {σ : PH} {K : PO → PH → Prop} (x0 : Nat) (x1 : Int32) (x2 : Int32) (h : PW d M_Mod_isChannel 0 [.int x1] [] σ (kI (fun r1 σ1 => (if r1 = 0 then PW (d + 1) M_Mod_sign 22 [.ref x0, .int x1, .int x2, uu, uu] [.ref x0] σ1 K else PW d M_Mod_isIn 0 [.int x2, .int 0, .int 31] [] σ1 (kI (fun r2 σ2 => (if r2 = 0 then PW (d + 1) M_Mod_sign 22 [.ref x0, .int x1, .int x2, uu, uu] [.ref x0] σ2 K else PW (d + 1) M_Mod_sign 23 [.ref x0, .int x1, .int x2, uu, uu] [.int 0, .ref x0] σ2 K)) K))) K)) : PW (d + 1) M_Mod_sign 0 [.ref x0, .int x1, .int x2, uu, uu] [] σ K := by
  refine pw_aload_n dc_Mod_sign_0 rfl rfl ?_
  refine pw_iload_n dc_Mod_sign_1 rfl ?_
  refine pw_callS (vs := [.int x1]) (st := [.ref x0]) dc_Mod_sign_2 cq_Mod_isChannel (List.mem_of_getElem? (i := 1129) (by decide +kernel)) (List.mem_of_getElem? (i := 1128) (by decide +kernel)) rfl rfl (cat_cons rfl (cat_nil)) (Nat.le_of_ble_eq_true rfl) (PW.mono (kI_kN (fun r1 σ1 h => ?_)) h)
  refine pw_if_eq (tgt := 22) dc_Mod_sign_5 (by decide) (fun hc => ?_) (fun hc => ?_)
  · have h := ite_t h hc
    exact h
  · have h := ite_f h hc
    refine pw_iload_n dc_Mod_sign_8 rfl ?_
    refine pw_iconst (v := 0) dc_Mod_sign_9 (by decide) ?_
    refine pw_bipush (v := 31) dc_Mod_sign_10 (by decide) ?_
    refine pw_callS (vs := [.int x2, .int 0, .int 31]) (st := [.ref x0]) dc_Mod_sign_12 cq_Mod_isIn (List.mem_of_getElem? (i := 1132) (by decide +kernel)) (List.mem_of_getElem? (i := 1131) (by decide +kernel)) rfl rfl (cat_cons rfl (cat_cons rfl (cat_cons rfl (cat_nil)))) (Nat.le_of_ble_eq_true rfl) (PW.mono (kI_kN (fun r2 σ2 h => ?_)) h)
    refine pw_if_eq (tgt := 22) dc_Mod_sign_15 (by decide) (fun hc => ?_) (fun hc => ?_)
    · have h := ite_t h hc
      exact h
    · have h := ite_f h hc
      refine pw_iconst (v := 0) dc_Mod_sign_18 (by decide) ?_
      refine pw_goto (tgt := 23) dc_Mod_sign_19 (by decide) ?_
      exact h
set_option maxRecDepth 20000 in
theorem e_Mod_sign_22 {d : Nat} {σ : PH} {K : PO → PH → Prop} (x0 : Nat) (x1 : Int32) (x2 : Int32) (y0 : Nat) (h : PW (d + 1) M_Mod_sign 23 [.ref x0, .int x1, .int x2, uu, uu] [.int 1, .ref y0] σ K) : PW (d + 1) M_Mod_sign 22 [.ref x0, .int x1, .int x2, uu, uu] [.ref y0] σ K := by
  refine pw_iconst (v := 1) dc_Mod_sign_22 (by decide) ?_
  exact h
set_option maxRecDepth 20000 in
theorem e_Mod_sign_23 {d : Nat} {σ : PH} {K : PO → PH → Prop} (x0 : Nat) (x1 : Int32) (x2 : Int32) (y0 : Int32) (y1 : Nat) (h : sh σ y1 = (1, 11) ∧ PW d M_Mod_refused 0 [.ref y1, .int y0] [] σ (kI (fun r1 σ1 => (if r1 = 0 then sh σ1 x0 = (1, 11) ∧ (∃ b1 : Nat, gR σ1 705 x0 = some b1 ∧ (∃ n1 : Nat, sh σ1 b1 = (4, n1) ∧ vp_in x1 n1 ∧ (if (eI σ1 b1 (ix x1)) = 0 then (if x2 = 26 then PW d M_Mod_gather 0 [.ref x0, .int x1, .int 32] [] σ1 (kV (fun σ6 => PW (d + 1) M_Mod_sign 149 [.ref x0, .int x1, .int x2, uu, uu] [] σ6 K) K) else (if x2 = 27 then PW d M_Mod_gather 0 [.ref x0, .int x1, .int 10] [] σ1 (kV (fun σ5 => PW (d + 1) M_Mod_sign 149 [.ref x0, .int x1, .int x2, uu, uu] [] σ5 K) K) else (if x2 = 28 then (∃ b4 : Nat, gR σ1 708 x0 = some b4 ∧ (∃ n4 : Nat, sh σ1 b4 = (4, n4) ∧ vp_in x1 n4 ∧ (∀ σ4 : PH, σ4 = uI σ1 b4 (ix x1) 0 → PW (d + 1) M_Mod_sign 149 [.ref x0, .int x1, .int x2, uu, uu] [] σ4 K))) else (if x2 = 29 then (∃ b3 : Nat, gR σ1 708 x0 = some b3 ∧ (∃ n3 : Nat, sh σ1 b3 = (4, n3) ∧ vp_in x1 n3 ∧ (∀ σ3 : PH, σ3 = uI σ1 b3 (ix x1) 1 → PW (d + 1) M_Mod_sign 149 [.ref x0, .int x1, .int x2, uu, uu] [] σ3 K))) else (if 26 ≤ x2 then PW (d + 1) M_Mod_sign 134 [.ref x0, .int x1, .int x2, uu, uu] [] σ1 K else (∃ b2 : Nat, gR σ1 708 x0 = some b2 ∧ (∃ n2 : Nat, sh σ1 b2 = (4, n2) ∧ vp_in x1 n2 ∧ (if (eI σ1 b2 (ix x1)) = 0 then PW d M_Mod_gather 0 [.ref x0, .int x1, .int (((65 + x2).toUInt32 % 65536).toInt32)] [] σ1 (kV (fun σ2 => PW (d + 1) M_Mod_sign 149 [.ref x0, .int x1, .int x2, uu, uu] [] σ2 K) K) else PW (d + 1) M_Mod_sign 134 [.ref x0, .int x1, .int x2, uu, uu] [] σ1 K)))))))) else K (.inl (some (.int ((-1))))) σ1))) else K (.inl (some (.int 0))) σ1)) K)) : PW (d + 1) M_Mod_sign 23 [.ref x0, .int x1, .int x2, uu, uu] [.int y0, .ref y1] σ K := by
  obtain ⟨hs1, h⟩ := h
  refine pw_callV (vs := [.int y0]) (st := []) (b := y1) (cn := 11) dc_Mod_sign_23 cq_Mod_refused (List.mem_of_getElem? (i := 1136) (by decide +kernel)) (List.mem_of_getElem? (i := 26) (by decide +kernel)) (List.mem_of_getElem? (i := 1134) (by decide +kernel)) rfl hs1 rfl rfl (by decide) (cat_cons rfl (cat_nil)) (Nat.le_of_ble_eq_true rfl) (PW.mono (kI_kN (fun r1 σ1 h => ?_)) h)
  refine pw_if_eq (tgt := 31) dc_Mod_sign_26 (by decide) (fun hc => ?_) (fun hc => ?_)
  · have h := ite_t h hc
    refine pw_aload_n dc_Mod_sign_31 rfl rfl ?_
    obtain ⟨hs2, h⟩ := h
    refine pw_getR (c := 11) (k := 1) (f := 705) dc_Mod_sign_32 fl_Mod_7 rfl rfl hs2 ?_
    obtain ⟨b1, hb1, h⟩ := h
    refine PW.top (v' := .ref b1) (congrArg va_rf hb1) ?_
    refine pw_iload_n dc_Mod_sign_35 rfl ?_
    obtain ⟨n1, hs3, h⟩ := h
    obtain ⟨hi1, h⟩ := h
    refine pw_zald dc_Mod_sign_36 hs3 hi1 ?_
    refine pw_if_eq (tgt := 42) dc_Mod_sign_37 (by decide) (fun hc => ?_) (fun hc => ?_)
    · have h := ite_t h hc
      refine pw_iload_n dc_Mod_sign_42 rfl ?_
      refine pw_bipush (v := 26) dc_Mod_sign_43 (by decide) ?_
      refine pw_icmp_ne (tgt := 58) dc_Mod_sign_45 (by decide) (fun hc => ?_) (fun hc => ?_)
      · have h := ite_f h hc
        refine pw_iload_n dc_Mod_sign_58 rfl ?_
        refine pw_bipush (v := 27) dc_Mod_sign_59 (by decide) ?_
        refine pw_icmp_ne (tgt := 74) dc_Mod_sign_61 (by decide) (fun hc => ?_) (fun hc => ?_)
        · have h := ite_f h hc
          refine pw_iload_n dc_Mod_sign_74 rfl ?_
          refine pw_bipush (v := 28) dc_Mod_sign_75 (by decide) ?_
          refine pw_icmp_ne (tgt := 90) dc_Mod_sign_77 (by decide) (fun hc => ?_) (fun hc => ?_)
          · have h := ite_f h hc
            refine pw_iload_n dc_Mod_sign_90 rfl ?_
            refine pw_bipush (v := 29) dc_Mod_sign_91 (by decide) ?_
            refine pw_icmp_ne (tgt := 106) dc_Mod_sign_93 (by decide) (fun hc => ?_) (fun hc => ?_)
            · have h := ite_f h hc
              refine pw_iload_n dc_Mod_sign_106 rfl ?_
              refine pw_bipush (v := 26) dc_Mod_sign_107 (by decide) ?_
              refine pw_icmp_ge (tgt := 134) dc_Mod_sign_109 (by decide) (fun hc => ?_) (fun hc => ?_)
              · have h := ite_t h hc
                exact h
              · have h := ite_f h hc
                refine pw_aload_n dc_Mod_sign_112 rfl rfl ?_
                refine pw_getR (c := 11) (k := 4) (f := 708) dc_Mod_sign_113 fl_Mod_22 rfl rfl hs2 ?_
                obtain ⟨b2, hb2, h⟩ := h
                refine PW.top (v' := .ref b2) (congrArg va_rf hb2) ?_
                refine pw_iload_n dc_Mod_sign_116 rfl ?_
                obtain ⟨n2, hs4, h⟩ := h
                obtain ⟨hi2, h⟩ := h
                refine pw_zald dc_Mod_sign_117 hs4 hi2 ?_
                refine pw_if_ne (tgt := 134) dc_Mod_sign_118 (by decide) (fun hc => ?_) (fun hc => ?_)
                · have h := ite_f h hc
                  exact h
                · have h := ite_t h hc
                  refine pw_aload_n dc_Mod_sign_121 rfl rfl ?_
                  refine pw_iload_n dc_Mod_sign_122 rfl ?_
                  refine pw_bipush (v := 65) dc_Mod_sign_123 (by decide) ?_
                  refine pw_iload_n dc_Mod_sign_125 rfl ?_
                  refine pw_iadd dc_Mod_sign_126 ?_
                  refine pw_i2c dc_Mod_sign_127 ?_
                  refine pw_callV (vs := [.int x1, .int (((65 + x2).toUInt32 % 65536).toInt32)]) (st := []) (b := x0) (cn := 11) dc_Mod_sign_128 cq_Mod_gather (List.mem_of_getElem? (i := 1140) (by decide +kernel)) (List.mem_of_getElem? (i := 27) (by decide +kernel)) (List.mem_of_getElem? (i := 1138) (by decide +kernel)) rfl hs2 rfl rfl (by decide) (cat_cons rfl (cat_cons rfl (cat_nil))) (Nat.le_of_ble_eq_true rfl) (PW.mono (kV_kN (fun σ2 h => ?_)) h)
                  refine pw_goto (tgt := 149) dc_Mod_sign_131 (by decide) ?_
                  exact h
            · have h := ite_t h hc
              refine pw_aload_n dc_Mod_sign_96 rfl rfl ?_
              refine pw_getR (c := 11) (k := 4) (f := 708) dc_Mod_sign_97 fl_Mod_22 rfl rfl hs2 ?_
              obtain ⟨b3, hb3, h⟩ := h
              refine PW.top (v' := .ref b3) (congrArg va_rf hb3) ?_
              refine pw_iload_n dc_Mod_sign_100 rfl ?_
              refine pw_iconst (v := 1) dc_Mod_sign_101 (by decide) ?_
              obtain ⟨n3, hs5, h⟩ := h
              obtain ⟨hi3, h⟩ := h
              have h := h _ rfl
              refine pw_zast dc_Mod_sign_102 hs5 hi3 (Or.inr rfl) ?_
              refine pw_goto (tgt := 149) dc_Mod_sign_103 (by decide) ?_
              exact h
          · have h := ite_t h hc
            refine pw_aload_n dc_Mod_sign_80 rfl rfl ?_
            refine pw_getR (c := 11) (k := 4) (f := 708) dc_Mod_sign_81 fl_Mod_22 rfl rfl hs2 ?_
            obtain ⟨b4, hb4, h⟩ := h
            refine PW.top (v' := .ref b4) (congrArg va_rf hb4) ?_
            refine pw_iload_n dc_Mod_sign_84 rfl ?_
            refine pw_iconst (v := 0) dc_Mod_sign_85 (by decide) ?_
            obtain ⟨n4, hs6, h⟩ := h
            obtain ⟨hi4, h⟩ := h
            have h := h _ rfl
            refine pw_zast dc_Mod_sign_86 hs6 hi4 (Or.inl rfl) ?_
            refine pw_goto (tgt := 149) dc_Mod_sign_87 (by decide) ?_
            exact h
        · have h := ite_t h hc
          refine pw_aload_n dc_Mod_sign_64 rfl rfl ?_
          refine pw_iload_n dc_Mod_sign_65 rfl ?_
          refine pw_bipush (v := 10) dc_Mod_sign_66 (by decide) ?_
          refine pw_callV (vs := [.int x1, .int 10]) (st := []) (b := x0) (cn := 11) dc_Mod_sign_68 cq_Mod_gather (List.mem_of_getElem? (i := 1140) (by decide +kernel)) (List.mem_of_getElem? (i := 27) (by decide +kernel)) (List.mem_of_getElem? (i := 1138) (by decide +kernel)) rfl hs2 rfl rfl (by decide) (cat_cons rfl (cat_cons rfl (cat_nil))) (Nat.le_of_ble_eq_true rfl) (PW.mono (kV_kN (fun σ5 h => ?_)) h)
          refine pw_goto (tgt := 149) dc_Mod_sign_71 (by decide) ?_
          exact h
      · have h := ite_t h hc
        refine pw_aload_n dc_Mod_sign_48 rfl rfl ?_
        refine pw_iload_n dc_Mod_sign_49 rfl ?_
        refine pw_bipush (v := 32) dc_Mod_sign_50 (by decide) ?_
        refine pw_callV (vs := [.int x1, .int 32]) (st := []) (b := x0) (cn := 11) dc_Mod_sign_52 cq_Mod_gather (List.mem_of_getElem? (i := 1140) (by decide +kernel)) (List.mem_of_getElem? (i := 27) (by decide +kernel)) (List.mem_of_getElem? (i := 1138) (by decide +kernel)) rfl hs2 rfl rfl (by decide) (cat_cons rfl (cat_cons rfl (cat_nil))) (Nat.le_of_ble_eq_true rfl) (PW.mono (kV_kN (fun σ6 h => ?_)) h)
        refine pw_goto (tgt := 149) dc_Mod_sign_55 (by decide) ?_
        exact h
    · have h := ite_f h hc
      refine pw_iconst (v := (-1)) dc_Mod_sign_40 (by decide) ?_
      exact pw_iret dc_Mod_sign_41 rfl rfl h
  · have h := ite_f h hc
    refine pw_iconst (v := 0) dc_Mod_sign_29 (by decide) ?_
    exact pw_iret dc_Mod_sign_30 rfl rfl h
set_option maxRecDepth 20000 in
theorem e_Mod_sign_134 {d : Nat} {σ : PH} {K : PO → PH → Prop} (x0 : Nat) (x1 : Int32) (x2 : Int32) (h : (if 20 < x2 then PW (d + 1) M_Mod_sign 149 [.ref x0, .int x1, .int x2, uu, uu] [] σ K else PW d M_Mod_figure 0 [.int x2] [] σ (kI (fun r1 σ1 => sh σ1 x0 = (1, 11) ∧ PW d M_Mod_gather 0 [.ref x0, .int x1, .int r1] [] σ1 (kV (fun σ2 => PW (d + 1) M_Mod_sign 149 [.ref x0, .int x1, .int x2, uu, uu] [] σ2 K) K)) K))) : PW (d + 1) M_Mod_sign 134 [.ref x0, .int x1, .int x2, uu, uu] [] σ K := by
  refine pw_iload_n dc_Mod_sign_134 rfl ?_
  refine pw_bipush (v := 20) dc_Mod_sign_135 (by decide) ?_
  refine pw_icmp_gt (tgt := 149) dc_Mod_sign_137 (by decide) (fun hc => ?_) (fun hc => ?_)
  · have h := ite_t h hc
    exact h
  · have h := ite_f h hc
    refine pw_aload_n dc_Mod_sign_140 rfl rfl ?_
    refine pw_iload_n dc_Mod_sign_141 rfl ?_
    refine pw_iload_n dc_Mod_sign_142 rfl ?_
    refine pw_callS (vs := [.int x2]) (st := [.int x1, .ref x0]) dc_Mod_sign_143 cq_Mod_figure (List.mem_of_getElem? (i := 1143) (by decide +kernel)) (List.mem_of_getElem? (i := 1142) (by decide +kernel)) rfl rfl (cat_cons rfl (cat_nil)) (Nat.le_of_ble_eq_true rfl) (PW.mono (kI_kN (fun r1 σ1 h => ?_)) h)
    obtain ⟨hs1, h⟩ := h
    refine pw_callV (vs := [.int x1, .int r1]) (st := []) (b := x0) (cn := 11) dc_Mod_sign_146 cq_Mod_gather (List.mem_of_getElem? (i := 1140) (by decide +kernel)) (List.mem_of_getElem? (i := 27) (by decide +kernel)) (List.mem_of_getElem? (i := 1138) (by decide +kernel)) rfl hs1 rfl rfl (by decide) (cat_cons rfl (cat_cons rfl (cat_nil))) (Nat.le_of_ble_eq_true rfl) (PW.mono (kV_kN (fun σ2 h => ?_)) h)
    exact h
set_option maxRecDepth 20000 in
theorem e_Mod_sign_149 {d : Nat} {σ : PH} {K : PO → PH → Prop} (x0 : Nat) (x1 : Int32) (x2 : Int32) (h : (if x2 = 27 then sh σ x0 = (1, 11) ∧ PW d M_Mod_isEnd 0 [.ref x0, .int x1, uu, uu] [] σ (kI (fun r1 σ1 => (if r1 = 0 then K (.inl (some (.int 0))) σ1 else sh σ1 x0 = (1, 11) ∧ (∃ b1 : Nat, gR σ1 706 x0 = some b1 ∧ (∃ n1 : Nat, sh σ1 b1 = (2, n1) ∧ vp_in x1 n1 ∧ (if ((eI σ1 b1 (ix x1)) - 5) ≤ 60 then PW (d + 1) M_Mod_sign 186 [.ref x0, .int x1, uu, .int ((eI σ1 b1 (ix x1)) - 5), uu] [.int 0, .ref x0] σ1 K else PW (d + 1) M_Mod_sign 186 [.ref x0, .int x1, uu, .int ((eI σ1 b1 (ix x1)) - 5), uu] [.int 1, .ref x0] σ1 K))))) K) else K (.inl (some (.int 0))) σ)) : PW (d + 1) M_Mod_sign 149 [.ref x0, .int x1, .int x2, uu, uu] [] σ K := by
  refine pw_iload_n dc_Mod_sign_149 rfl ?_
  refine pw_bipush (v := 27) dc_Mod_sign_150 (by decide) ?_
  refine pw_icmp_ne (tgt := 163) dc_Mod_sign_152 (by decide) (fun hc => ?_) (fun hc => ?_)
  · have h := ite_f h hc
    refine pw_iconst (v := 0) dc_Mod_sign_163 (by decide) ?_
    exact pw_iret dc_Mod_sign_164 rfl rfl h
  · have h := ite_t h hc
    refine pw_aload_n dc_Mod_sign_155 rfl rfl ?_
    refine pw_iload_n dc_Mod_sign_156 rfl ?_
    obtain ⟨hs1, h⟩ := h
    refine pw_callV (vs := [.int x1]) (st := []) (b := x0) (cn := 11) dc_Mod_sign_157 cq_Mod_isEnd (List.mem_of_getElem? (i := 1147) (by decide +kernel)) (List.mem_of_getElem? (i := 28) (by decide +kernel)) (List.mem_of_getElem? (i := 1145) (by decide +kernel)) rfl hs1 rfl rfl (by decide) (cat_cons rfl (cat_nil)) (Nat.le_of_ble_eq_true rfl) (PW.mono (kI_kN (fun r1 σ1 h => ?_)) h)
    refine pw_if_ne (tgt := 165) dc_Mod_sign_160 (by decide) (fun hc => ?_) (fun hc => ?_)
    · have h := ite_f h hc
      refine pw_aload_n dc_Mod_sign_165 rfl rfl ?_
      obtain ⟨hs2, h⟩ := h
      refine pw_getR (c := 11) (k := 2) (f := 706) dc_Mod_sign_166 fl_Mod_13 rfl rfl hs2 ?_
      obtain ⟨b1, hb1, h⟩ := h
      refine PW.top (v' := .ref b1) (congrArg va_rf hb1) ?_
      refine pw_iload_n dc_Mod_sign_169 rfl ?_
      obtain ⟨n1, hs3, h⟩ := h
      obtain ⟨hi1, h⟩ := h
      refine pw_iald dc_Mod_sign_170 hs3 hi1 ?_
      refine pw_iconst (v := 5) dc_Mod_sign_171 (by decide) ?_
      refine pw_isub dc_Mod_sign_172 ?_
      refine pw_istore_n dc_Mod_sign_173 (by decide) ?_
      refine pw_aload_n dc_Mod_sign_174 rfl rfl ?_
      refine pw_iload_n dc_Mod_sign_175 rfl ?_
      refine pw_bipush (v := 60) dc_Mod_sign_176 (by decide) ?_
      refine pw_icmp_le (tgt := 185) dc_Mod_sign_178 (by decide) (fun hc => ?_) (fun hc => ?_)
      · have h := ite_t h hc
        refine pw_iconst (v := 0) dc_Mod_sign_185 (by decide) ?_
        refine PW.drop (ls' := [.ref x0, .int x1, uu, .int ((eI σ1 b1 (ix x1)) - 5), uu]) ⟨Or.inl rfl, Or.inl rfl, Or.inr rfl, Or.inl rfl, Or.inl rfl, trivial⟩ ?_
        exact h
      · have h := ite_f h hc
        refine pw_iconst (v := 1) dc_Mod_sign_181 (by decide) ?_
        refine pw_goto (tgt := 186) dc_Mod_sign_182 (by decide) ?_
        refine PW.drop (ls' := [.ref x0, .int x1, uu, .int ((eI σ1 b1 (ix x1)) - 5), uu]) ⟨Or.inl rfl, Or.inl rfl, Or.inr rfl, Or.inl rfl, Or.inl rfl, trivial⟩ ?_
        exact h
    · have h := ite_t h hc
      refine pw_iconst (v := 0) dc_Mod_sign_163 (by decide) ?_
      exact pw_iret dc_Mod_sign_164 rfl rfl h
set_option maxRecDepth 20000 in
theorem e_Mod_sign_186 {d : Nat} {σ : PH} {K : PO → PH → Prop} (x0 : Nat) (x1 : Int32) (x3 : Int32) (y0 : Int32) (y1 : Nat) (h : sh σ y1 = (1, 11) ∧ bo y0 ∧ (∀ σ1 : PH, σ1 = pI σ 744 y1 y0 → sh σ1 x0 = (1, 11) ∧ (if (gI σ1 744 x0) = 0 then PW (d + 1) M_Mod_sign 203 [.ref x0, .int x1, uu, uu, uu] [.int x3, .ref x0] σ1 K else PW (d + 1) M_Mod_sign 203 [.ref x0, .int x1, uu, uu, uu] [.int 60, .ref x0] σ1 K))) : PW (d + 1) M_Mod_sign 186 [.ref x0, .int x1, uu, .int x3, uu] [.int y0, .ref y1] σ K := by
  obtain ⟨hs1, h⟩ := h
  obtain ⟨hz1, h⟩ := h
  have h := h _ rfl
  refine pw_putZ (c := 11) (k := 40) (f := 744) dc_Mod_sign_186 fl_Mod_174 (Or.inl rfl) rfl rfl hs1 hz1 ?_
  refine pw_aload_n dc_Mod_sign_189 rfl rfl ?_
  refine pw_aload_n dc_Mod_sign_190 rfl rfl ?_
  obtain ⟨hs2, h⟩ := h
  refine pw_getI (c := 11) (k := 40) (f := 744) dc_Mod_sign_191 fl_Mod_174 rfl rfl hs2 ?_
  refine pw_if_eq (tgt := 202) dc_Mod_sign_194 (by decide) (fun hc => ?_) (fun hc => ?_)
  · have h := ite_t h hc
    refine pw_iload_n dc_Mod_sign_202 rfl ?_
    refine PW.drop (ls' := [.ref x0, .int x1, uu, uu, uu]) ⟨Or.inl rfl, Or.inl rfl, Or.inl rfl, Or.inr rfl, Or.inl rfl, trivial⟩ ?_
    exact h
  · have h := ite_f h hc
    refine pw_bipush (v := 60) dc_Mod_sign_197 (by decide) ?_
    refine pw_goto (tgt := 203) dc_Mod_sign_199 (by decide) ?_
    refine PW.drop (ls' := [.ref x0, .int x1, uu, uu, uu]) ⟨Or.inl rfl, Or.inl rfl, Or.inl rfl, Or.inr rfl, Or.inl rfl, trivial⟩ ?_
    exact h
set_option maxRecDepth 20000 in
theorem e_Mod_sign_203 {d : Nat} {σ : PH} {K : PO → PH → Prop} (x0 : Nat) (x1 : Int32) (y0 : Int32) (y1 : Nat) (h : sh σ y1 = (1, 11) ∧ (∀ σ1 : PH, σ1 = pI σ 742 y1 y0 → PW (d + 1) M_Mod_sign 209 [.ref x0, .int x1, uu, uu, .int 0] [] σ1 K)) : PW (d + 1) M_Mod_sign 203 [.ref x0, .int x1, uu, uu, uu] [.int y0, .ref y1] σ K := by
  obtain ⟨hs1, h⟩ := h
  have h := h _ rfl
  refine pw_putI (c := 11) (k := 38) (f := 742) dc_Mod_sign_203 fl_Mod_178 (Or.inl rfl) rfl rfl hs1 ?_
  refine pw_iconst (v := 0) dc_Mod_sign_206 (by decide) ?_
  refine pw_istore dc_Mod_sign_207 (by decide) ?_
  exact h
set_option maxRecDepth 20000 in
theorem e_Mod_sign_209 {d : Nat} {σ : PH} {K : PO → PH → Prop} (x0 : Nat) (x1 : Int32) (x4 : Int32) (h : sh σ x0 = (1, 11) ∧ (if (gI σ 742 x0) ≤ x4 then PW d M_Mod_forget 0 [.ref x0, .int x1] [] σ (kV (fun σ1 => sh σ1 x0 = (1, 11) ∧ PW d M_Mod_finish 0 [.ref x0, .int x1, uu] [] σ1 (kI (fun r1 σ2 => K (.inl (some (.int r1))) σ2) K)) K) else (∃ b1 : Nat, gR σ 743 x0 = some b1 ∧ (∃ b2 : Nat, gR σ 707 x0 = some b2 ∧ (∃ n1 : Nat, sh σ b2 = (3, n1) ∧ vp_in ((4096 * x1) + x4) n1 ∧ (∃ n2 : Nat, sh σ b1 = (3, n2) ∧ vp_in x4 n2 ∧ ch (eI σ b2 (ix ((4096 * x1) + x4))) ∧ (∀ σ3 : PH, σ3 = uI σ b1 (ix x4) (eI σ b2 (ix ((4096 * x1) + x4))) → PW (d + 1) M_Mod_sign 209 [.ref x0, .int x1, uu, uu, .int (x4 + 1)] [] σ3 K))))))) : PW (d + 1) M_Mod_sign 209 [.ref x0, .int x1, uu, uu, .int x4] [] σ K := by
  refine pw_iload dc_Mod_sign_209 rfl ?_
  refine pw_aload_n dc_Mod_sign_211 rfl rfl ?_
  obtain ⟨hs1, h⟩ := h
  refine pw_getI (c := 11) (k := 38) (f := 742) dc_Mod_sign_212 fl_Mod_178 rfl rfl hs1 ?_
  refine pw_icmp_ge (tgt := 244) dc_Mod_sign_215 (by decide) (fun hc => ?_) (fun hc => ?_)
  · have h := ite_t h hc
    refine pw_aload_n dc_Mod_sign_244 rfl rfl ?_
    refine pw_iload_n dc_Mod_sign_245 rfl ?_
    refine pw_callV (vs := [.int x1]) (st := []) (b := x0) (cn := 11) dc_Mod_sign_246 cq_Mod_forget (List.mem_of_getElem? (i := 1155) (by decide +kernel)) (List.mem_of_getElem? (i := 30) (by decide +kernel)) (List.mem_of_getElem? (i := 1153) (by decide +kernel)) rfl hs1 rfl rfl (by decide) (cat_cons rfl (cat_nil)) (Nat.le_of_ble_eq_true rfl) (PW.mono (kV_kN (fun σ1 h => ?_)) h)
    refine pw_aload_n dc_Mod_sign_249 rfl rfl ?_
    refine pw_iload_n dc_Mod_sign_250 rfl ?_
    obtain ⟨hs2, h⟩ := h
    refine pw_callV (vs := [.int x1]) (st := []) (b := x0) (cn := 11) dc_Mod_sign_251 cq_Mod_finish (List.mem_of_getElem? (i := 1159) (by decide +kernel)) (List.mem_of_getElem? (i := 31) (by decide +kernel)) (List.mem_of_getElem? (i := 1157) (by decide +kernel)) rfl hs2 rfl rfl (by decide) (cat_cons rfl (cat_nil)) (Nat.le_of_ble_eq_true rfl) (PW.mono (kI_kN (fun r1 σ2 h => ?_)) h)
    exact pw_iret dc_Mod_sign_254 rfl rfl h
  · have h := ite_f h hc
    refine pw_aload_n dc_Mod_sign_218 rfl rfl ?_
    refine pw_getR (c := 11) (k := 39) (f := 743) dc_Mod_sign_219 fl_Mod_115 rfl rfl hs1 ?_
    obtain ⟨b1, hb1, h⟩ := h
    refine PW.top (v' := .ref b1) (congrArg va_rf hb1) ?_
    refine pw_iload dc_Mod_sign_222 rfl ?_
    refine pw_aload_n dc_Mod_sign_224 rfl rfl ?_
    refine pw_getR (c := 11) (k := 3) (f := 707) dc_Mod_sign_225 fl_Mod_18 rfl rfl hs1 ?_
    obtain ⟨b2, hb2, h⟩ := h
    refine PW.top (v' := .ref b2) (congrArg va_rf hb2) ?_
    refine pw_sipush (v := 4096) dc_Mod_sign_228 (by decide) ?_
    refine pw_iload_n dc_Mod_sign_231 rfl ?_
    refine pw_imul dc_Mod_sign_232 ?_
    refine pw_iload dc_Mod_sign_233 rfl ?_
    refine pw_iadd dc_Mod_sign_235 ?_
    obtain ⟨n1, hs3, h⟩ := h
    obtain ⟨hi1, h⟩ := h
    refine pw_cald dc_Mod_sign_236 hs3 hi1 ?_
    obtain ⟨n2, hs4, h⟩ := h
    obtain ⟨hi2, h⟩ := h
    obtain ⟨hc1, h⟩ := h
    have h := h _ rfl
    refine pw_cast dc_Mod_sign_237 hs4 hi2 hc1 ?_
    refine pw_iincv (v := 1) dc_Mod_sign_238 (by decide) rfl (by decide) ?_
    refine pw_goto (tgt := 209) dc_Mod_sign_241 (by decide) ?_
    exact h
theorem dc_Mod_part_0 : decode M_Mod_part.2.1 0 = .ok (.aload_n 0, 1) := by decide +kernel
theorem dc_Mod_part_1 : decode M_Mod_part.2.1 1 = .ok (.iconst 0, 1) := by decide +kernel
theorem dc_Mod_part_2 : decode M_Mod_part.2.1 2 = .ok (.putfield 189, 3) := by decide +kernel
theorem dc_Mod_part_5 : decode M_Mod_part.2.1 5 = .ok (.aload_n 0, 1) := by decide +kernel
theorem dc_Mod_part_6 : decode M_Mod_part.2.1 6 = .ok (.iconst 0, 1) := by decide +kernel
theorem dc_Mod_part_7 : decode M_Mod_part.2.1 7 = .ok (.putfield 192, 3) := by decide +kernel
theorem dc_Mod_part_10 : decode M_Mod_part.2.1 10 = .ok (.aload_n 0, 1) := by decide +kernel
theorem dc_Mod_part_11 : decode M_Mod_part.2.1 11 = .ok (.getfield 192, 3) := by decide +kernel
theorem dc_Mod_part_14 : decode M_Mod_part.2.1 14 = .ok (.aload_n 0, 1) := by decide +kernel
theorem dc_Mod_part_15 : decode M_Mod_part.2.1 15 = .ok (.getfield 178, 3) := by decide +kernel
theorem dc_Mod_part_18 : decode M_Mod_part.2.1 18 = .ok (.if_icmp .ge 30, 3) := by decide +kernel
theorem dc_Mod_part_21 : decode M_Mod_part.2.1 21 = .ok (.aload_n 0, 1) := by decide +kernel
theorem dc_Mod_part_22 : decode M_Mod_part.2.1 22 = .ok (.getfield 115, 3) := by decide +kernel
theorem dc_Mod_part_25 : decode M_Mod_part.2.1 25 = .ok (.aload_n 0, 1) := by decide +kernel
theorem dc_Mod_part_26 : decode M_Mod_part.2.1 26 = .ok (.getfield 192, 3) := by decide +kernel
theorem dc_Mod_part_29 : decode M_Mod_part.2.1 29 = .ok (.caload, 1) := by decide +kernel
theorem dc_Mod_part_30 : decode M_Mod_part.2.1 30 = .ok (.bipush 10, 2) := by decide +kernel
theorem dc_Mod_part_32 : decode M_Mod_part.2.1 32 = .ok (.if_icmp .eq 16, 3) := by decide +kernel
theorem dc_Mod_part_35 : decode M_Mod_part.2.1 35 = .ok (.aload_n 0, 1) := by decide +kernel
theorem dc_Mod_part_36 : decode M_Mod_part.2.1 36 = .ok (.dup, 1) := by decide +kernel
theorem dc_Mod_part_37 : decode M_Mod_part.2.1 37 = .ok (.getfield 192, 3) := by decide +kernel
theorem dc_Mod_part_40 : decode M_Mod_part.2.1 40 = .ok (.iconst 1, 1) := by decide +kernel
theorem dc_Mod_part_41 : decode M_Mod_part.2.1 41 = .ok (.iadd, 1) := by decide +kernel
theorem dc_Mod_part_42 : decode M_Mod_part.2.1 42 = .ok (.putfield 192, 3) := by decide +kernel
theorem dc_Mod_part_45 : decode M_Mod_part.2.1 45 = .ok (.goto (-35), 3) := by decide +kernel
theorem dc_Mod_part_48 : decode M_Mod_part.2.1 48 = .ok (.iconst 0, 1) := by decide +kernel
theorem dc_Mod_part_49 : decode M_Mod_part.2.1 49 = .ok (.istore_n 1, 1) := by decide +kernel
theorem dc_Mod_part_50 : decode M_Mod_part.2.1 50 = .ok (.iload_n 1, 1) := by decide +kernel
theorem dc_Mod_part_51 : decode M_Mod_part.2.1 51 = .ok (.aload_n 0, 1) := by decide +kernel
theorem dc_Mod_part_52 : decode M_Mod_part.2.1 52 = .ok (.getfield 192, 3) := by decide +kernel
theorem dc_Mod_part_55 : decode M_Mod_part.2.1 55 = .ok (.if_icmp .ge 88, 3) := by decide +kernel
theorem dc_Mod_part_58 : decode M_Mod_part.2.1 58 = .ok (.aload_n 0, 1) := by decide +kernel
theorem dc_Mod_part_59 : decode M_Mod_part.2.1 59 = .ok (.getfield 115, 3) := by decide +kernel
theorem dc_Mod_part_62 : decode M_Mod_part.2.1 62 = .ok (.iload_n 1, 1) := by decide +kernel
theorem dc_Mod_part_63 : decode M_Mod_part.2.1 63 = .ok (.caload, 1) := by decide +kernel
theorem dc_Mod_part_64 : decode M_Mod_part.2.1 64 = .ok (.bipush 32, 2) := by decide +kernel
theorem dc_Mod_part_66 : decode M_Mod_part.2.1 66 = .ok (.if_icmp .ne 9, 3) := by decide +kernel
theorem dc_Mod_part_69 : decode M_Mod_part.2.1 69 = .ok (.iinc 1 1, 3) := by decide +kernel
theorem dc_Mod_part_72 : decode M_Mod_part.2.1 72 = .ok (.goto (-22), 3) := by decide +kernel
theorem dc_Mod_part_75 : decode M_Mod_part.2.1 75 = .ok (.aload_n 0, 1) := by decide +kernel
theorem dc_Mod_part_76 : decode M_Mod_part.2.1 76 = .ok (.getfield 118, 3) := by decide +kernel
theorem dc_Mod_part_79 : decode M_Mod_part.2.1 79 = .ok (.aload_n 0, 1) := by decide +kernel
theorem dc_Mod_part_80 : decode M_Mod_part.2.1 80 = .ok (.getfield 189, 3) := by decide +kernel
theorem dc_Mod_part_83 : decode M_Mod_part.2.1 83 = .ok (.iload_n 1, 1) := by decide +kernel
theorem dc_Mod_part_84 : decode M_Mod_part.2.1 84 = .ok (.iastore, 1) := by decide +kernel
theorem dc_Mod_part_85 : decode M_Mod_part.2.1 85 = .ok (.iload_n 1, 1) := by decide +kernel
theorem dc_Mod_part_86 : decode M_Mod_part.2.1 86 = .ok (.aload_n 0, 1) := by decide +kernel
theorem dc_Mod_part_87 : decode M_Mod_part.2.1 87 = .ok (.getfield 192, 3) := by decide +kernel
theorem dc_Mod_part_90 : decode M_Mod_part.2.1 90 = .ok (.if_icmp .ge 20, 3) := by decide +kernel
theorem dc_Mod_part_93 : decode M_Mod_part.2.1 93 = .ok (.aload_n 0, 1) := by decide +kernel
theorem dc_Mod_part_94 : decode M_Mod_part.2.1 94 = .ok (.getfield 115, 3) := by decide +kernel
theorem dc_Mod_part_97 : decode M_Mod_part.2.1 97 = .ok (.iload_n 1, 1) := by decide +kernel
theorem dc_Mod_part_98 : decode M_Mod_part.2.1 98 = .ok (.caload, 1) := by decide +kernel
theorem dc_Mod_part_99 : decode M_Mod_part.2.1 99 = .ok (.bipush 32, 2) := by decide +kernel
theorem dc_Mod_part_101 : decode M_Mod_part.2.1 101 = .ok (.if_icmp .eq 9, 3) := by decide +kernel
theorem dc_Mod_part_104 : decode M_Mod_part.2.1 104 = .ok (.iinc 1 1, 3) := by decide +kernel
theorem dc_Mod_part_107 : decode M_Mod_part.2.1 107 = .ok (.goto (-22), 3) := by decide +kernel
theorem dc_Mod_part_110 : decode M_Mod_part.2.1 110 = .ok (.aload_n 0, 1) := by decide +kernel
theorem dc_Mod_part_111 : decode M_Mod_part.2.1 111 = .ok (.getfield 121, 3) := by decide +kernel
theorem dc_Mod_part_114 : decode M_Mod_part.2.1 114 = .ok (.aload_n 0, 1) := by decide +kernel
theorem dc_Mod_part_115 : decode M_Mod_part.2.1 115 = .ok (.getfield 189, 3) := by decide +kernel
theorem dc_Mod_part_118 : decode M_Mod_part.2.1 118 = .ok (.iload_n 1, 1) := by decide +kernel
theorem dc_Mod_part_119 : decode M_Mod_part.2.1 119 = .ok (.aload_n 0, 1) := by decide +kernel
theorem dc_Mod_part_120 : decode M_Mod_part.2.1 120 = .ok (.getfield 118, 3) := by decide +kernel
theorem dc_Mod_part_123 : decode M_Mod_part.2.1 123 = .ok (.aload_n 0, 1) := by decide +kernel
theorem dc_Mod_part_124 : decode M_Mod_part.2.1 124 = .ok (.getfield 189, 3) := by decide +kernel
theorem dc_Mod_part_127 : decode M_Mod_part.2.1 127 = .ok (.iaload, 1) := by decide +kernel
theorem dc_Mod_part_128 : decode M_Mod_part.2.1 128 = .ok (.isub, 1) := by decide +kernel
theorem dc_Mod_part_129 : decode M_Mod_part.2.1 129 = .ok (.iastore, 1) := by decide +kernel
theorem dc_Mod_part_130 : decode M_Mod_part.2.1 130 = .ok (.aload_n 0, 1) := by decide +kernel
theorem dc_Mod_part_131 : decode M_Mod_part.2.1 131 = .ok (.dup, 1) := by decide +kernel
theorem dc_Mod_part_132 : decode M_Mod_part.2.1 132 = .ok (.getfield 189, 3) := by decide +kernel
theorem dc_Mod_part_135 : decode M_Mod_part.2.1 135 = .ok (.iconst 1, 1) := by decide +kernel
theorem dc_Mod_part_136 : decode M_Mod_part.2.1 136 = .ok (.iadd, 1) := by decide +kernel
theorem dc_Mod_part_137 : decode M_Mod_part.2.1 137 = .ok (.putfield 189, 3) := by decide +kernel
theorem dc_Mod_part_140 : decode M_Mod_part.2.1 140 = .ok (.goto (-90), 3) := by decide +kernel
theorem dc_Mod_part_143 : decode M_Mod_part.2.1 143 = .ok (.aload_n 0, 1) := by decide +kernel
theorem dc_Mod_part_144 : decode M_Mod_part.2.1 144 = .ok (.aload_n 0, 1) := by decide +kernel
theorem dc_Mod_part_145 : decode M_Mod_part.2.1 145 = .ok (.getfield 192, 3) := by decide +kernel
theorem dc_Mod_part_148 : decode M_Mod_part.2.1 148 = .ok (.aload_n 0, 1) := by decide +kernel
theorem dc_Mod_part_149 : decode M_Mod_part.2.1 149 = .ok (.getfield 178, 3) := by decide +kernel
theorem dc_Mod_part_152 : decode M_Mod_part.2.1 152 = .ok (.if_icmp .ge 12, 3) := by decide +kernel
theorem dc_Mod_part_155 : decode M_Mod_part.2.1 155 = .ok (.aload_n 0, 1) := by decide +kernel
theorem dc_Mod_part_156 : decode M_Mod_part.2.1 156 = .ok (.getfield 192, 3) := by decide +kernel
theorem dc_Mod_part_159 : decode M_Mod_part.2.1 159 = .ok (.iconst 1, 1) := by decide +kernel
theorem dc_Mod_part_160 : decode M_Mod_part.2.1 160 = .ok (.iadd, 1) := by decide +kernel
theorem dc_Mod_part_161 : decode M_Mod_part.2.1 161 = .ok (.goto 7, 3) := by decide +kernel
theorem dc_Mod_part_164 : decode M_Mod_part.2.1 164 = .ok (.aload_n 0, 1) := by decide +kernel
theorem dc_Mod_part_165 : decode M_Mod_part.2.1 165 = .ok (.getfield 178, 3) := by decide +kernel
theorem dc_Mod_part_168 : decode M_Mod_part.2.1 168 = .ok (.putfield 192, 3) := by decide +kernel
theorem dc_Mod_part_171 : decode M_Mod_part.2.1 171 = .ok (.return_, 1) := by decide +kernel
set_option maxRecDepth 20000 in
theorem e_Mod_part_0 {d : Nat} {σ : PH} {K : PO → PH → Prop} (x0 : Nat) (h : sh σ x0 = (1, 11) ∧ (∀ σ1 : PH, σ1 = pI σ 745 x0 0 → sh σ1 x0 = (1, 11) ∧ (∀ σ2 : PH, σ2 = pI σ1 751 x0 0 → PW d M_Mod_part 10 [.ref x0, uu] [] σ2 K))) : PW d M_Mod_part 0 [.ref x0, uu] [] σ K := by
  refine pw_aload_n dc_Mod_part_0 rfl rfl ?_
  refine pw_iconst (v := 0) dc_Mod_part_1 (by decide) ?_
  obtain ⟨hs1, h⟩ := h
  have h := h _ rfl
  refine pw_putI (c := 11) (k := 41) (f := 745) dc_Mod_part_2 fl_Mod_189 (Or.inl rfl) rfl rfl hs1 ?_
  refine pw_aload_n dc_Mod_part_5 rfl rfl ?_
  refine pw_iconst (v := 0) dc_Mod_part_6 (by decide) ?_
  obtain ⟨hs2, h⟩ := h
  have h := h _ rfl
  refine pw_putI (c := 11) (k := 47) (f := 751) dc_Mod_part_7 fl_Mod_192 (Or.inl rfl) rfl rfl hs2 ?_
  exact h
set_option maxRecDepth 20000 in
theorem e_Mod_part_10 {d : Nat} {σ : PH} {K : PO → PH → Prop} (x0 : Nat) (h : sh σ x0 = (1, 11) ∧ (if (gI σ 742 x0) ≤ (gI σ 751 x0) then PW d M_Mod_part 48 [.ref x0, uu] [] σ K else (∃ b1 : Nat, gR σ 743 x0 = some b1 ∧ (∃ n1 : Nat, sh σ b1 = (3, n1) ∧ vp_in (gI σ 751 x0) n1 ∧ (if (eI σ b1 (ix (gI σ 751 x0))) = 10 then PW d M_Mod_part 48 [.ref x0, uu] [] σ K else (∀ σ1 : PH, σ1 = pI σ 751 x0 ((gI σ 751 x0) + 1) → PW d M_Mod_part 10 [.ref x0, uu] [] σ1 K)))))) : PW d M_Mod_part 10 [.ref x0, uu] [] σ K := by
  refine pw_aload_n dc_Mod_part_10 rfl rfl ?_
  obtain ⟨hs1, h⟩ := h
  refine pw_getI (c := 11) (k := 47) (f := 751) dc_Mod_part_11 fl_Mod_192 rfl rfl hs1 ?_
  refine pw_aload_n dc_Mod_part_14 rfl rfl ?_
  refine pw_getI (c := 11) (k := 38) (f := 742) dc_Mod_part_15 fl_Mod_178 rfl rfl hs1 ?_
  refine pw_icmp_ge (tgt := 48) dc_Mod_part_18 (by decide) (fun hc => ?_) (fun hc => ?_)
  · have h := ite_t h hc
    exact h
  · have h := ite_f h hc
    refine pw_aload_n dc_Mod_part_21 rfl rfl ?_
    refine pw_getR (c := 11) (k := 39) (f := 743) dc_Mod_part_22 fl_Mod_115 rfl rfl hs1 ?_
    obtain ⟨b1, hb1, h⟩ := h
    refine PW.top (v' := .ref b1) (congrArg va_rf hb1) ?_
    refine pw_aload_n dc_Mod_part_25 rfl rfl ?_
    refine pw_getI (c := 11) (k := 47) (f := 751) dc_Mod_part_26 fl_Mod_192 rfl rfl hs1 ?_
    obtain ⟨n1, hs2, h⟩ := h
    obtain ⟨hi1, h⟩ := h
    refine pw_cald dc_Mod_part_29 hs2 hi1 ?_
    refine pw_bipush (v := 10) dc_Mod_part_30 (by decide) ?_
    refine pw_icmp_eq (tgt := 48) dc_Mod_part_32 (by decide) (fun hc => ?_) (fun hc => ?_)
    · have h := ite_t h hc
      exact h
    · have h := ite_f h hc
      refine pw_aload_n dc_Mod_part_35 rfl rfl ?_
      refine pw_dup dc_Mod_part_36 rfl ?_
      refine pw_getI (c := 11) (k := 47) (f := 751) dc_Mod_part_37 fl_Mod_192 rfl rfl hs1 ?_
      refine pw_iconst (v := 1) dc_Mod_part_40 (by decide) ?_
      refine pw_iadd dc_Mod_part_41 ?_
      have h := h _ rfl
      refine pw_putI (c := 11) (k := 47) (f := 751) dc_Mod_part_42 fl_Mod_192 (Or.inl rfl) rfl rfl hs1 ?_
      refine pw_goto (tgt := 10) dc_Mod_part_45 (by decide) ?_
      exact h
set_option maxRecDepth 20000 in
theorem e_Mod_part_48 {d : Nat} {σ : PH} {K : PO → PH → Prop} (x0 : Nat) (h : PW d M_Mod_part 50 [.ref x0, .int 0] [] σ K) : PW d M_Mod_part 48 [.ref x0, uu] [] σ K := by
  refine pw_iconst (v := 0) dc_Mod_part_48 (by decide) ?_
  refine pw_istore_n dc_Mod_part_49 (by decide) ?_
  exact h
set_option maxRecDepth 20000 in
theorem e_Mod_part_50 {d : Nat} {σ : PH} {K : PO → PH → Prop} (x0 : Nat) (x1 : Int32) (h : sh σ x0 = (1, 11) ∧ (if (gI σ 751 x0) ≤ x1 then (if (gI σ 742 x0) ≤ (gI σ 751 x0) then (∀ σ1 : PH, σ1 = pI σ 751 x0 (gI σ 742 x0) → K (.inl none) σ1) else (∀ σ2 : PH, σ2 = pI σ 751 x0 ((gI σ 751 x0) + 1) → K (.inl none) σ2)) else (∃ b1 : Nat, gR σ 743 x0 = some b1 ∧ (∃ n1 : Nat, sh σ b1 = (3, n1) ∧ vp_in x1 n1 ∧ (if (eI σ b1 (ix x1)) = 32 then PW d M_Mod_part 50 [.ref x0, .int (x1 + 1)] [] σ K else (∃ b2 : Nat, gR σ 746 x0 = some b2 ∧ (∃ n2 : Nat, sh σ b2 = (2, n2) ∧ vp_in (gI σ 745 x0) n2 ∧ (∀ σ3 : PH, σ3 = uI σ b2 (ix (gI σ 745 x0)) x1 → PW d M_Mod_part 85 [.ref x0, .int x1] [] σ3 K)))))))) : PW d M_Mod_part 50 [.ref x0, .int x1] [] σ K := by
  refine pw_iload_n dc_Mod_part_50 rfl ?_
  refine pw_aload_n dc_Mod_part_51 rfl rfl ?_
  obtain ⟨hs1, h⟩ := h
  refine pw_getI (c := 11) (k := 47) (f := 751) dc_Mod_part_52 fl_Mod_192 rfl rfl hs1 ?_
  refine pw_icmp_ge (tgt := 143) dc_Mod_part_55 (by decide) (fun hc => ?_) (fun hc => ?_)
  · have h := ite_t h hc
    refine pw_aload_n dc_Mod_part_143 rfl rfl ?_
    refine pw_aload_n dc_Mod_part_144 rfl rfl ?_
    refine pw_getI (c := 11) (k := 47) (f := 751) dc_Mod_part_145 fl_Mod_192 rfl rfl hs1 ?_
    refine pw_aload_n dc_Mod_part_148 rfl rfl ?_
    refine pw_getI (c := 11) (k := 38) (f := 742) dc_Mod_part_149 fl_Mod_178 rfl rfl hs1 ?_
    refine pw_icmp_ge (tgt := 164) dc_Mod_part_152 (by decide) (fun hc => ?_) (fun hc => ?_)
    · have h := ite_t h hc
      refine pw_aload_n dc_Mod_part_164 rfl rfl ?_
      refine pw_getI (c := 11) (k := 38) (f := 742) dc_Mod_part_165 fl_Mod_178 rfl rfl hs1 ?_
      have h := h _ rfl
      refine pw_putI (c := 11) (k := 47) (f := 751) dc_Mod_part_168 fl_Mod_192 (Or.inl rfl) rfl rfl hs1 ?_
      exact pw_vret dc_Mod_part_171 rfl h
    · have h := ite_f h hc
      refine pw_aload_n dc_Mod_part_155 rfl rfl ?_
      refine pw_getI (c := 11) (k := 47) (f := 751) dc_Mod_part_156 fl_Mod_192 rfl rfl hs1 ?_
      refine pw_iconst (v := 1) dc_Mod_part_159 (by decide) ?_
      refine pw_iadd dc_Mod_part_160 ?_
      refine pw_goto (tgt := 168) dc_Mod_part_161 (by decide) ?_
      have h := h _ rfl
      refine pw_putI (c := 11) (k := 47) (f := 751) dc_Mod_part_168 fl_Mod_192 (Or.inl rfl) rfl rfl hs1 ?_
      exact pw_vret dc_Mod_part_171 rfl h
  · have h := ite_f h hc
    refine pw_aload_n dc_Mod_part_58 rfl rfl ?_
    refine pw_getR (c := 11) (k := 39) (f := 743) dc_Mod_part_59 fl_Mod_115 rfl rfl hs1 ?_
    obtain ⟨b1, hb1, h⟩ := h
    refine PW.top (v' := .ref b1) (congrArg va_rf hb1) ?_
    refine pw_iload_n dc_Mod_part_62 rfl ?_
    obtain ⟨n1, hs2, h⟩ := h
    obtain ⟨hi1, h⟩ := h
    refine pw_cald dc_Mod_part_63 hs2 hi1 ?_
    refine pw_bipush (v := 32) dc_Mod_part_64 (by decide) ?_
    refine pw_icmp_ne (tgt := 75) dc_Mod_part_66 (by decide) (fun hc => ?_) (fun hc => ?_)
    · have h := ite_f h hc
      refine pw_aload_n dc_Mod_part_75 rfl rfl ?_
      refine pw_getR (c := 11) (k := 42) (f := 746) dc_Mod_part_76 fl_Mod_118 rfl rfl hs1 ?_
      obtain ⟨b2, hb2, h⟩ := h
      refine PW.top (v' := .ref b2) (congrArg va_rf hb2) ?_
      refine pw_aload_n dc_Mod_part_79 rfl rfl ?_
      refine pw_getI (c := 11) (k := 41) (f := 745) dc_Mod_part_80 fl_Mod_189 rfl rfl hs1 ?_
      refine pw_iload_n dc_Mod_part_83 rfl ?_
      obtain ⟨n2, hs3, h⟩ := h
      obtain ⟨hi2, h⟩ := h
      have h := h _ rfl
      refine pw_iast dc_Mod_part_84 hs3 hi2 ?_
      exact h
    · have h := ite_t h hc
      refine pw_iincv (v := 1) dc_Mod_part_69 (by decide) rfl (by decide) ?_
      refine pw_goto (tgt := 50) dc_Mod_part_72 (by decide) ?_
      exact h
set_option maxRecDepth 20000 in
theorem e_Mod_part_85 {d : Nat} {σ : PH} {K : PO → PH → Prop} (x0 : Nat) (x1 : Int32) (h : sh σ x0 = (1, 11) ∧ (if (gI σ 751 x0) ≤ x1 then PW d M_Mod_part 110 [.ref x0, .int x1] [] σ K else (∃ b1 : Nat, gR σ 743 x0 = some b1 ∧ (∃ n1 : Nat, sh σ b1 = (3, n1) ∧ vp_in x1 n1 ∧ (if (eI σ b1 (ix x1)) = 32 then PW d M_Mod_part 110 [.ref x0, .int x1] [] σ K else PW d M_Mod_part 85 [.ref x0, .int (x1 + 1)] [] σ K))))) : PW d M_Mod_part 85 [.ref x0, .int x1] [] σ K := by
  refine pw_iload_n dc_Mod_part_85 rfl ?_
  refine pw_aload_n dc_Mod_part_86 rfl rfl ?_
  obtain ⟨hs1, h⟩ := h
  refine pw_getI (c := 11) (k := 47) (f := 751) dc_Mod_part_87 fl_Mod_192 rfl rfl hs1 ?_
  refine pw_icmp_ge (tgt := 110) dc_Mod_part_90 (by decide) (fun hc => ?_) (fun hc => ?_)
  · have h := ite_t h hc
    exact h
  · have h := ite_f h hc
    refine pw_aload_n dc_Mod_part_93 rfl rfl ?_
    refine pw_getR (c := 11) (k := 39) (f := 743) dc_Mod_part_94 fl_Mod_115 rfl rfl hs1 ?_
    obtain ⟨b1, hb1, h⟩ := h
    refine PW.top (v' := .ref b1) (congrArg va_rf hb1) ?_
    refine pw_iload_n dc_Mod_part_97 rfl ?_
    obtain ⟨n1, hs2, h⟩ := h
    obtain ⟨hi1, h⟩ := h
    refine pw_cald dc_Mod_part_98 hs2 hi1 ?_
    refine pw_bipush (v := 32) dc_Mod_part_99 (by decide) ?_
    refine pw_icmp_eq (tgt := 110) dc_Mod_part_101 (by decide) (fun hc => ?_) (fun hc => ?_)
    · have h := ite_t h hc
      exact h
    · have h := ite_f h hc
      refine pw_iincv (v := 1) dc_Mod_part_104 (by decide) rfl (by decide) ?_
      refine pw_goto (tgt := 85) dc_Mod_part_107 (by decide) ?_
      exact h
set_option maxRecDepth 20000 in
theorem e_Mod_part_110 {d : Nat} {σ : PH} {K : PO → PH → Prop} (x0 : Nat) (x1 : Int32) (h : sh σ x0 = (1, 11) ∧ (∃ b1 : Nat, gR σ 747 x0 = some b1 ∧ (∃ b2 : Nat, gR σ 746 x0 = some b2 ∧ (∃ n1 : Nat, sh σ b2 = (2, n1) ∧ vp_in (gI σ 745 x0) n1 ∧ (∃ n2 : Nat, sh σ b1 = (2, n2) ∧ vp_in (gI σ 745 x0) n2 ∧ (∀ σ1 : PH, σ1 = uI σ b1 (ix (gI σ 745 x0)) (x1 - (eI σ b2 (ix (gI σ 745 x0)))) → sh σ1 x0 = (1, 11) ∧ (∀ σ2 : PH, σ2 = pI σ1 745 x0 ((gI σ1 745 x0) + 1) → PW d M_Mod_part 50 [.ref x0, .int x1] [] σ2 K))))))) : PW d M_Mod_part 110 [.ref x0, .int x1] [] σ K := by
  refine pw_aload_n dc_Mod_part_110 rfl rfl ?_
  obtain ⟨hs1, h⟩ := h
  refine pw_getR (c := 11) (k := 43) (f := 747) dc_Mod_part_111 fl_Mod_121 rfl rfl hs1 ?_
  obtain ⟨b1, hb1, h⟩ := h
  refine PW.top (v' := .ref b1) (congrArg va_rf hb1) ?_
  refine pw_aload_n dc_Mod_part_114 rfl rfl ?_
  refine pw_getI (c := 11) (k := 41) (f := 745) dc_Mod_part_115 fl_Mod_189 rfl rfl hs1 ?_
  refine pw_iload_n dc_Mod_part_118 rfl ?_
  refine pw_aload_n dc_Mod_part_119 rfl rfl ?_
  refine pw_getR (c := 11) (k := 42) (f := 746) dc_Mod_part_120 fl_Mod_118 rfl rfl hs1 ?_
  obtain ⟨b2, hb2, h⟩ := h
  refine PW.top (v' := .ref b2) (congrArg va_rf hb2) ?_
  refine pw_aload_n dc_Mod_part_123 rfl rfl ?_
  refine pw_getI (c := 11) (k := 41) (f := 745) dc_Mod_part_124 fl_Mod_189 rfl rfl hs1 ?_
  obtain ⟨n1, hs2, h⟩ := h
  obtain ⟨hi1, h⟩ := h
  refine pw_iald dc_Mod_part_127 hs2 hi1 ?_
  refine pw_isub dc_Mod_part_128 ?_
  obtain ⟨n2, hs3, h⟩ := h
  obtain ⟨hi2, h⟩ := h
  have h := h _ rfl
  refine pw_iast dc_Mod_part_129 hs3 hi2 ?_
  refine pw_aload_n dc_Mod_part_130 rfl rfl ?_
  refine pw_dup dc_Mod_part_131 rfl ?_
  obtain ⟨hs4, h⟩ := h
  refine pw_getI (c := 11) (k := 41) (f := 745) dc_Mod_part_132 fl_Mod_189 rfl rfl hs4 ?_
  refine pw_iconst (v := 1) dc_Mod_part_135 (by decide) ?_
  refine pw_iadd dc_Mod_part_136 ?_
  have h := h _ rfl
  refine pw_putI (c := 11) (k := 41) (f := 745) dc_Mod_part_137 fl_Mod_189 (Or.inl rfl) rfl rfl hs4 ?_
  refine pw_goto (tgt := 50) dc_Mod_part_140 (by decide) ?_
  exact h
theorem dc_Mod_letter_0 : decode M_Mod_letter.2.1 0 = .ok (.aload_n 0, 1) := by decide +kernel
theorem dc_Mod_letter_1 : decode M_Mod_letter.2.1 1 = .ok (.getfield 115, 3) := by decide +kernel
theorem dc_Mod_letter_4 : decode M_Mod_letter.2.1 4 = .ok (.aload_n 0, 1) := by decide +kernel
theorem dc_Mod_letter_5 : decode M_Mod_letter.2.1 5 = .ok (.getfield 118, 3) := by decide +kernel
theorem dc_Mod_letter_8 : decode M_Mod_letter.2.1 8 = .ok (.iload_n 1, 1) := by decide +kernel
theorem dc_Mod_letter_9 : decode M_Mod_letter.2.1 9 = .ok (.iaload, 1) := by decide +kernel
theorem dc_Mod_letter_10 : decode M_Mod_letter.2.1 10 = .ok (.iload_n 2, 1) := by decide +kernel
theorem dc_Mod_letter_11 : decode M_Mod_letter.2.1 11 = .ok (.iadd, 1) := by decide +kernel
theorem dc_Mod_letter_12 : decode M_Mod_letter.2.1 12 = .ok (.caload, 1) := by decide +kernel
theorem dc_Mod_letter_13 : decode M_Mod_letter.2.1 13 = .ok (.ireturn, 1) := by decide +kernel
set_option maxRecDepth 20000 in
theorem e_Mod_letter_0 {d : Nat} {σ : PH} {K : PO → PH → Prop} (x0 : Nat) (x1 : Int32) (x2 : Int32) (h : sh σ x0 = (1, 11) ∧ (∃ b1 : Nat, gR σ 743 x0 = some b1 ∧ (∃ b2 : Nat, gR σ 746 x0 = some b2 ∧ (∃ n1 : Nat, sh σ b2 = (2, n1) ∧ vp_in x1 n1 ∧ (∃ n2 : Nat, sh σ b1 = (3, n2) ∧ vp_in ((eI σ b2 (ix x1)) + x2) n2 ∧ ch (eI σ b1 (ix ((eI σ b2 (ix x1)) + x2))) ∧ K (.inl (some (.int (eI σ b1 (ix ((eI σ b2 (ix x1)) + x2)))))) σ))))) : PW d M_Mod_letter 0 [.ref x0, .int x1, .int x2] [] σ K := by
  refine pw_aload_n dc_Mod_letter_0 rfl rfl ?_
  obtain ⟨hs1, h⟩ := h
  refine pw_getR (c := 11) (k := 39) (f := 743) dc_Mod_letter_1 fl_Mod_115 rfl rfl hs1 ?_
  obtain ⟨b1, hb1, h⟩ := h
  refine PW.top (v' := .ref b1) (congrArg va_rf hb1) ?_
  refine pw_aload_n dc_Mod_letter_4 rfl rfl ?_
  refine pw_getR (c := 11) (k := 42) (f := 746) dc_Mod_letter_5 fl_Mod_118 rfl rfl hs1 ?_
  obtain ⟨b2, hb2, h⟩ := h
  refine PW.top (v' := .ref b2) (congrArg va_rf hb2) ?_
  refine pw_iload_n dc_Mod_letter_8 rfl ?_
  obtain ⟨n1, hs2, h⟩ := h
  obtain ⟨hi1, h⟩ := h
  refine pw_iald dc_Mod_letter_9 hs2 hi1 ?_
  refine pw_iload_n dc_Mod_letter_10 rfl ?_
  refine pw_iadd dc_Mod_letter_11 ?_
  obtain ⟨n2, hs3, h⟩ := h
  obtain ⟨hi2, h⟩ := h
  refine pw_cald dc_Mod_letter_12 hs3 hi2 ?_
  exact pw_iret dc_Mod_letter_13 rfl h.1 h.2
theorem dc_Mod_numberWord_0 : decode M_Mod_numberWord.2.1 0 = .ok (.aload_n 0, 1) := by decide +kernel
theorem dc_Mod_numberWord_1 : decode M_Mod_numberWord.2.1 1 = .ok (.getfield 189, 3) := by decide +kernel
theorem dc_Mod_numberWord_4 : decode M_Mod_numberWord.2.1 4 = .ok (.ifCond .eq 13, 3) := by decide +kernel
theorem dc_Mod_numberWord_7 : decode M_Mod_numberWord.2.1 7 = .ok (.aload_n 0, 1) := by decide +kernel
theorem dc_Mod_numberWord_8 : decode M_Mod_numberWord.2.1 8 = .ok (.getfield 121, 3) := by decide +kernel
theorem dc_Mod_numberWord_11 : decode M_Mod_numberWord.2.1 11 = .ok (.iconst 0, 1) := by decide +kernel
theorem dc_Mod_numberWord_12 : decode M_Mod_numberWord.2.1 12 = .ok (.iaload, 1) := by decide +kernel
theorem dc_Mod_numberWord_13 : decode M_Mod_numberWord.2.1 13 = .ok (.iconst 3, 1) := by decide +kernel
theorem dc_Mod_numberWord_14 : decode M_Mod_numberWord.2.1 14 = .ok (.if_icmp .eq 5, 3) := by decide +kernel
theorem dc_Mod_numberWord_17 : decode M_Mod_numberWord.2.1 17 = .ok (.iconst 0, 1) := by decide +kernel
theorem dc_Mod_numberWord_18 : decode M_Mod_numberWord.2.1 18 = .ok (.ireturn, 1) := by decide +kernel
theorem dc_Mod_numberWord_19 : decode M_Mod_numberWord.2.1 19 = .ok (.iconst 0, 1) := by decide +kernel
theorem dc_Mod_numberWord_20 : decode M_Mod_numberWord.2.1 20 = .ok (.istore_n 1, 1) := by decide +kernel
theorem dc_Mod_numberWord_21 : decode M_Mod_numberWord.2.1 21 = .ok (.iconst 0, 1) := by decide +kernel
theorem dc_Mod_numberWord_22 : decode M_Mod_numberWord.2.1 22 = .ok (.istore_n 2, 1) := by decide +kernel
theorem dc_Mod_numberWord_23 : decode M_Mod_numberWord.2.1 23 = .ok (.iload_n 2, 1) := by decide +kernel
theorem dc_Mod_numberWord_24 : decode M_Mod_numberWord.2.1 24 = .ok (.iconst 3, 1) := by decide +kernel
theorem dc_Mod_numberWord_25 : decode M_Mod_numberWord.2.1 25 = .ok (.if_icmp .ge 38, 3) := by decide +kernel
theorem dc_Mod_numberWord_28 : decode M_Mod_numberWord.2.1 28 = .ok (.aload_n 0, 1) := by decide +kernel
theorem dc_Mod_numberWord_29 : decode M_Mod_numberWord.2.1 29 = .ok (.iconst 0, 1) := by decide +kernel
theorem dc_Mod_numberWord_30 : decode M_Mod_numberWord.2.1 30 = .ok (.iload_n 2, 1) := by decide +kernel
theorem dc_Mod_numberWord_31 : decode M_Mod_numberWord.2.1 31 = .ok (.invokevirtual 195, 3) := by decide +kernel
theorem dc_Mod_numberWord_34 : decode M_Mod_numberWord.2.1 34 = .ok (.invokestatic 198, 3) := by decide +kernel
theorem dc_Mod_numberWord_37 : decode M_Mod_numberWord.2.1 37 = .ok (.ifCond .ne 5, 3) := by decide +kernel
theorem dc_Mod_numberWord_40 : decode M_Mod_numberWord.2.1 40 = .ok (.iconst 0, 1) := by decide +kernel
theorem dc_Mod_numberWord_41 : decode M_Mod_numberWord.2.1 41 = .ok (.ireturn, 1) := by decide +kernel
theorem dc_Mod_numberWord_42 : decode M_Mod_numberWord.2.1 42 = .ok (.bipush 10, 2) := by decide +kernel
theorem dc_Mod_numberWord_44 : decode M_Mod_numberWord.2.1 44 = .ok (.iload_n 1, 1) := by decide +kernel
theorem dc_Mod_numberWord_45 : decode M_Mod_numberWord.2.1 45 = .ok (.imul, 1) := by decide +kernel
theorem dc_Mod_numberWord_46 : decode M_Mod_numberWord.2.1 46 = .ok (.aload_n 0, 1) := by decide +kernel
theorem dc_Mod_numberWord_47 : decode M_Mod_numberWord.2.1 47 = .ok (.iconst 0, 1) := by decide +kernel
theorem dc_Mod_numberWord_48 : decode M_Mod_numberWord.2.1 48 = .ok (.iload_n 2, 1) := by decide +kernel
theorem dc_Mod_numberWord_49 : decode M_Mod_numberWord.2.1 49 = .ok (.invokevirtual 195, 3) := by decide +kernel
theorem dc_Mod_numberWord_52 : decode M_Mod_numberWord.2.1 52 = .ok (.iadd, 1) := by decide +kernel
theorem dc_Mod_numberWord_53 : decode M_Mod_numberWord.2.1 53 = .ok (.bipush 48, 2) := by decide +kernel
theorem dc_Mod_numberWord_55 : decode M_Mod_numberWord.2.1 55 = .ok (.isub, 1) := by decide +kernel
theorem dc_Mod_numberWord_56 : decode M_Mod_numberWord.2.1 56 = .ok (.istore_n 1, 1) := by decide +kernel
theorem dc_Mod_numberWord_57 : decode M_Mod_numberWord.2.1 57 = .ok (.iinc 2 1, 3) := by decide +kernel
theorem dc_Mod_numberWord_60 : decode M_Mod_numberWord.2.1 60 = .ok (.goto (-37), 3) := by decide +kernel
theorem dc_Mod_numberWord_63 : decode M_Mod_numberWord.2.1 63 = .ok (.iload_n 1, 1) := by decide +kernel
theorem dc_Mod_numberWord_64 : decode M_Mod_numberWord.2.1 64 = .ok (.ireturn, 1) := by decide +kernel
set_option maxRecDepth 20000 in
theorem e_Mod_numberWord_0 {d : Nat} {σ : PH} {K : PO → PH → Prop} (x0 : Nat) (h : sh σ x0 = (1, 11) ∧ (if (gI σ 745 x0) = 0 then K (.inl (some (.int 0))) σ else (∃ b1 : Nat, gR σ 747 x0 = some b1 ∧ (∃ n1 : Nat, sh σ b1 = (2, n1) ∧ vp_in 0 n1 ∧ (if (eI σ b1 (ix 0)) = 3 then PW (d + 1) M_Mod_numberWord 23 [.ref x0, .int 0, .int 0] [] σ K else K (.inl (some (.int 0))) σ))))) : PW (d + 1) M_Mod_numberWord 0 [.ref x0, uu, uu] [] σ K := by
  refine pw_aload_n dc_Mod_numberWord_0 rfl rfl ?_
  obtain ⟨hs1, h⟩ := h
  refine pw_getI (c := 11) (k := 41) (f := 745) dc_Mod_numberWord_1 fl_Mod_189 rfl rfl hs1 ?_
  refine pw_if_eq (tgt := 17) dc_Mod_numberWord_4 (by decide) (fun hc => ?_) (fun hc => ?_)
  · have h := ite_t h hc
    refine pw_iconst (v := 0) dc_Mod_numberWord_17 (by decide) ?_
    exact pw_iret dc_Mod_numberWord_18 rfl rfl h
  · have h := ite_f h hc
    refine pw_aload_n dc_Mod_numberWord_7 rfl rfl ?_
    refine pw_getR (c := 11) (k := 43) (f := 747) dc_Mod_numberWord_8 fl_Mod_121 rfl rfl hs1 ?_
    obtain ⟨b1, hb1, h⟩ := h
    refine PW.top (v' := .ref b1) (congrArg va_rf hb1) ?_
    refine pw_iconst (v := 0) dc_Mod_numberWord_11 (by decide) ?_
    obtain ⟨n1, hs2, h⟩ := h
    obtain ⟨hi1, h⟩ := h
    refine pw_iald dc_Mod_numberWord_12 hs2 hi1 ?_
    refine pw_iconst (v := 3) dc_Mod_numberWord_13 (by decide) ?_
    refine pw_icmp_eq (tgt := 19) dc_Mod_numberWord_14 (by decide) (fun hc => ?_) (fun hc => ?_)
    · have h := ite_t h hc
      refine pw_iconst (v := 0) dc_Mod_numberWord_19 (by decide) ?_
      refine pw_istore_n dc_Mod_numberWord_20 (by decide) ?_
      refine pw_iconst (v := 0) dc_Mod_numberWord_21 (by decide) ?_
      refine pw_istore_n dc_Mod_numberWord_22 (by decide) ?_
      exact h
    · have h := ite_f h hc
      refine pw_iconst (v := 0) dc_Mod_numberWord_17 (by decide) ?_
      exact pw_iret dc_Mod_numberWord_18 rfl rfl h
set_option maxRecDepth 20000 in
theorem e_Mod_numberWord_23 {d : Nat} {σ : PH} {K : PO → PH → Prop} (x0 : Nat) (x1 : Int32) (x2 : Int32) (h : (if 3 ≤ x2 then K (.inl (some (.int x1))) σ else sh σ x0 = (1, 11) ∧ PW d M_Mod_letter 0 [.ref x0, .int 0, .int x2] [] σ (kI (fun r1 σ1 => PW d M_Mod_isDigit 0 [.int r1] [] σ1 (kI (fun r2 σ2 => (if r2 = 0 then K (.inl (some (.int 0))) σ2 else sh σ2 x0 = (1, 11) ∧ PW d M_Mod_letter 0 [.ref x0, .int 0, .int x2] [] σ2 (kI (fun r3 σ3 => PW (d + 1) M_Mod_numberWord 23 [.ref x0, .int (((10 * x1) + r3) - 48), .int (x2 + 1)] [] σ3 K) K))) K)) K))) : PW (d + 1) M_Mod_numberWord 23 [.ref x0, .int x1, .int x2] [] σ K := by
  refine pw_iload_n dc_Mod_numberWord_23 rfl ?_
  refine pw_iconst (v := 3) dc_Mod_numberWord_24 (by decide) ?_
  refine pw_icmp_ge (tgt := 63) dc_Mod_numberWord_25 (by decide) (fun hc => ?_) (fun hc => ?_)
  · have h := ite_t h hc
    refine pw_iload_n dc_Mod_numberWord_63 rfl ?_
    exact pw_iret dc_Mod_numberWord_64 rfl rfl h
  · have h := ite_f h hc
    refine pw_aload_n dc_Mod_numberWord_28 rfl rfl ?_
    refine pw_iconst (v := 0) dc_Mod_numberWord_29 (by decide) ?_
    refine pw_iload_n dc_Mod_numberWord_30 rfl ?_
    obtain ⟨hs1, h⟩ := h
    refine pw_callV (vs := [.int 0, .int x2]) (st := []) (b := x0) (cn := 11) dc_Mod_numberWord_31 cq_Mod_letter (List.mem_of_getElem? (i := 1175) (by decide +kernel)) (List.mem_of_getElem? (i := 35) (by decide +kernel)) (List.mem_of_getElem? (i := 1173) (by decide +kernel)) rfl hs1 rfl rfl (by decide) (cat_cons rfl (cat_cons rfl (cat_nil))) (Nat.le_of_ble_eq_true rfl) (PW.mono (kI_kN (fun r1 σ1 h => ?_)) h)
    refine pw_callS (vs := [.int r1]) (st := []) dc_Mod_numberWord_34 cq_Mod_isDigit (List.mem_of_getElem? (i := 1178) (by decide +kernel)) (List.mem_of_getElem? (i := 1177) (by decide +kernel)) rfl rfl (cat_cons rfl (cat_nil)) (Nat.le_of_ble_eq_true rfl) (PW.mono (kI_kN (fun r2 σ2 h => ?_)) h)
    refine pw_if_ne (tgt := 42) dc_Mod_numberWord_37 (by decide) (fun hc => ?_) (fun hc => ?_)
    · have h := ite_f h hc
      refine pw_bipush (v := 10) dc_Mod_numberWord_42 (by decide) ?_
      refine pw_iload_n dc_Mod_numberWord_44 rfl ?_
      refine pw_imul dc_Mod_numberWord_45 ?_
      refine pw_aload_n dc_Mod_numberWord_46 rfl rfl ?_
      refine pw_iconst (v := 0) dc_Mod_numberWord_47 (by decide) ?_
      refine pw_iload_n dc_Mod_numberWord_48 rfl ?_
      obtain ⟨hs2, h⟩ := h
      refine pw_callV (vs := [.int 0, .int x2]) (st := [.int (10 * x1)]) (b := x0) (cn := 11) dc_Mod_numberWord_49 cq_Mod_letter (List.mem_of_getElem? (i := 1175) (by decide +kernel)) (List.mem_of_getElem? (i := 35) (by decide +kernel)) (List.mem_of_getElem? (i := 1173) (by decide +kernel)) rfl hs2 rfl rfl (by decide) (cat_cons rfl (cat_cons rfl (cat_nil))) (Nat.le_of_ble_eq_true rfl) (PW.mono (kI_kN (fun r3 σ3 h => ?_)) h)
      refine pw_iadd dc_Mod_numberWord_52 ?_
      refine pw_bipush (v := 48) dc_Mod_numberWord_53 (by decide) ?_
      refine pw_isub dc_Mod_numberWord_55 ?_
      refine pw_istore_n dc_Mod_numberWord_56 (by decide) ?_
      refine pw_iincv (v := 1) dc_Mod_numberWord_57 (by decide) rfl (by decide) ?_
      refine pw_goto (tgt := 23) dc_Mod_numberWord_60 (by decide) ?_
      exact h
    · have h := ite_t h hc
      refine pw_iconst (v := 0) dc_Mod_numberWord_40 (by decide) ?_
      exact pw_iret dc_Mod_numberWord_41 rfl rfl h
theorem dc_Mod_isIndicator_0 : decode M_Mod_isIndicator.2.1 0 = .ok (.aload_n 0, 1) := by decide +kernel
theorem dc_Mod_isIndicator_1 : decode M_Mod_isIndicator.2.1 1 = .ok (.getfield 121, 3) := by decide +kernel
theorem dc_Mod_isIndicator_4 : decode M_Mod_isIndicator.2.1 4 = .ok (.iload_n 1, 1) := by decide +kernel
theorem dc_Mod_isIndicator_5 : decode M_Mod_isIndicator.2.1 5 = .ok (.iaload, 1) := by decide +kernel
theorem dc_Mod_isIndicator_6 : decode M_Mod_isIndicator.2.1 6 = .ok (.iconst 4, 1) := by decide +kernel
theorem dc_Mod_isIndicator_7 : decode M_Mod_isIndicator.2.1 7 = .ok (.if_icmp .ne 7, 3) := by decide +kernel
theorem dc_Mod_isIndicator_10 : decode M_Mod_isIndicator.2.1 10 = .ok (.iconst 1, 1) := by decide +kernel
theorem dc_Mod_isIndicator_11 : decode M_Mod_isIndicator.2.1 11 = .ok (.goto 4, 3) := by decide +kernel
theorem dc_Mod_isIndicator_14 : decode M_Mod_isIndicator.2.1 14 = .ok (.iconst 0, 1) := by decide +kernel
theorem dc_Mod_isIndicator_15 : decode M_Mod_isIndicator.2.1 15 = .ok (.istore_n 2, 1) := by decide +kernel
theorem dc_Mod_isIndicator_16 : decode M_Mod_isIndicator.2.1 16 = .ok (.iconst 0, 1) := by decide +kernel
theorem dc_Mod_isIndicator_17 : decode M_Mod_isIndicator.2.1 17 = .ok (.istore_n 3, 1) := by decide +kernel
theorem dc_Mod_isIndicator_18 : decode M_Mod_isIndicator.2.1 18 = .ok (.iload_n 3, 1) := by decide +kernel
theorem dc_Mod_isIndicator_19 : decode M_Mod_isIndicator.2.1 19 = .ok (.iconst 4, 1) := by decide +kernel
theorem dc_Mod_isIndicator_20 : decode M_Mod_isIndicator.2.1 20 = .ok (.if_icmp .ge 23, 3) := by decide +kernel
theorem dc_Mod_isIndicator_23 : decode M_Mod_isIndicator.2.1 23 = .ok (.iload_n 2, 1) := by decide +kernel
theorem dc_Mod_isIndicator_24 : decode M_Mod_isIndicator.2.1 24 = .ok (.ifCond .eq 19, 3) := by decide +kernel
theorem dc_Mod_isIndicator_27 : decode M_Mod_isIndicator.2.1 27 = .ok (.aload_n 0, 1) := by decide +kernel
theorem dc_Mod_isIndicator_28 : decode M_Mod_isIndicator.2.1 28 = .ok (.iload_n 1, 1) := by decide +kernel
theorem dc_Mod_isIndicator_29 : decode M_Mod_isIndicator.2.1 29 = .ok (.iload_n 3, 1) := by decide +kernel
theorem dc_Mod_isIndicator_30 : decode M_Mod_isIndicator.2.1 30 = .ok (.invokevirtual 195, 3) := by decide +kernel
theorem dc_Mod_isIndicator_33 : decode M_Mod_isIndicator.2.1 33 = .ok (.invokestatic 148, 3) := by decide +kernel
theorem dc_Mod_isIndicator_36 : decode M_Mod_isIndicator.2.1 36 = .ok (.istore_n 2, 1) := by decide +kernel
theorem dc_Mod_isIndicator_37 : decode M_Mod_isIndicator.2.1 37 = .ok (.iinc 3 1, 3) := by decide +kernel
theorem dc_Mod_isIndicator_40 : decode M_Mod_isIndicator.2.1 40 = .ok (.goto (-22), 3) := by decide +kernel
theorem dc_Mod_isIndicator_43 : decode M_Mod_isIndicator.2.1 43 = .ok (.iload_n 2, 1) := by decide +kernel
theorem dc_Mod_isIndicator_44 : decode M_Mod_isIndicator.2.1 44 = .ok (.ireturn, 1) := by decide +kernel
set_option maxRecDepth 20000 in
theorem e_Mod_isIndicator_0 {d : Nat} {σ : PH} {K : PO → PH → Prop} (x0 : Nat) (x1 : Int32) (h : sh σ x0 = (1, 11) ∧ (∃ b1 : Nat, gR σ 747 x0 = some b1 ∧ (∃ n1 : Nat, sh σ b1 = (2, n1) ∧ vp_in x1 n1 ∧ (if (eI σ b1 (ix x1)) = 4 then PW (d + 1) M_Mod_isIndicator 15 [.ref x0, .int x1, uu, uu] [.int 1] σ K else PW (d + 1) M_Mod_isIndicator 15 [.ref x0, .int x1, uu, uu] [.int 0] σ K)))) : PW (d + 1) M_Mod_isIndicator 0 [.ref x0, .int x1, uu, uu] [] σ K := by
  refine pw_aload_n dc_Mod_isIndicator_0 rfl rfl ?_
  obtain ⟨hs1, h⟩ := h
  refine pw_getR (c := 11) (k := 43) (f := 747) dc_Mod_isIndicator_1 fl_Mod_121 rfl rfl hs1 ?_
  obtain ⟨b1, hb1, h⟩ := h
  refine PW.top (v' := .ref b1) (congrArg va_rf hb1) ?_
  refine pw_iload_n dc_Mod_isIndicator_4 rfl ?_
  obtain ⟨n1, hs2, h⟩ := h
  obtain ⟨hi1, h⟩ := h
  refine pw_iald dc_Mod_isIndicator_5 hs2 hi1 ?_
  refine pw_iconst (v := 4) dc_Mod_isIndicator_6 (by decide) ?_
  refine pw_icmp_ne (tgt := 14) dc_Mod_isIndicator_7 (by decide) (fun hc => ?_) (fun hc => ?_)
  · have h := ite_f h hc
    refine pw_iconst (v := 0) dc_Mod_isIndicator_14 (by decide) ?_
    exact h
  · have h := ite_t h hc
    refine pw_iconst (v := 1) dc_Mod_isIndicator_10 (by decide) ?_
    refine pw_goto (tgt := 15) dc_Mod_isIndicator_11 (by decide) ?_
    exact h
set_option maxRecDepth 20000 in
theorem e_Mod_isIndicator_15 {d : Nat} {σ : PH} {K : PO → PH → Prop} (x0 : Nat) (x1 : Int32) (y0 : Int32) (h : PW (d + 1) M_Mod_isIndicator 18 [.ref x0, .int x1, .int y0, .int 0] [] σ K) : PW (d + 1) M_Mod_isIndicator 15 [.ref x0, .int x1, uu, uu] [.int y0] σ K := by
  refine pw_istore_n dc_Mod_isIndicator_15 (by decide) ?_
  refine pw_iconst (v := 0) dc_Mod_isIndicator_16 (by decide) ?_
  refine pw_istore_n dc_Mod_isIndicator_17 (by decide) ?_
  exact h
set_option maxRecDepth 20000 in
theorem e_Mod_isIndicator_18 {d : Nat} {σ : PH} {K : PO → PH → Prop} (x0 : Nat) (x1 : Int32) (x2 : Int32) (x3 : Int32) (h : (if 4 ≤ x3 then bo x2 ∧ K (.inl (some (.int x2))) σ else (if x2 = 0 then bo x2 ∧ K (.inl (some (.int x2))) σ else sh σ x0 = (1, 11) ∧ PW d M_Mod_letter 0 [.ref x0, .int x1, .int x3] [] σ (kI (fun r1 σ1 => PW d M_Mod_isLetter 0 [.int r1] [] σ1 (kI (fun r2 σ2 => PW (d + 1) M_Mod_isIndicator 18 [.ref x0, .int x1, .int r2, .int (x3 + 1)] [] σ2 K) K)) K)))) : PW (d + 1) M_Mod_isIndicator 18 [.ref x0, .int x1, .int x2, .int x3] [] σ K := by
  refine pw_iload_n dc_Mod_isIndicator_18 rfl ?_
  refine pw_iconst (v := 4) dc_Mod_isIndicator_19 (by decide) ?_
  refine pw_icmp_ge (tgt := 43) dc_Mod_isIndicator_20 (by decide) (fun hc => ?_) (fun hc => ?_)
  · have h := ite_t h hc
    refine pw_iload_n dc_Mod_isIndicator_43 rfl ?_
    exact pw_iret dc_Mod_isIndicator_44 rfl (bo_nar h.1) h.2
  · have h := ite_f h hc
    refine pw_iload_n dc_Mod_isIndicator_23 rfl ?_
    refine pw_if_eq (tgt := 43) dc_Mod_isIndicator_24 (by decide) (fun hc => ?_) (fun hc => ?_)
    · have h := ite_t h hc
      refine pw_iload_n dc_Mod_isIndicator_43 rfl ?_
      exact pw_iret dc_Mod_isIndicator_44 rfl (bo_nar h.1) h.2
    · have h := ite_f h hc
      refine pw_aload_n dc_Mod_isIndicator_27 rfl rfl ?_
      refine pw_iload_n dc_Mod_isIndicator_28 rfl ?_
      refine pw_iload_n dc_Mod_isIndicator_29 rfl ?_
      obtain ⟨hs1, h⟩ := h
      refine pw_callV (vs := [.int x1, .int x3]) (st := []) (b := x0) (cn := 11) dc_Mod_isIndicator_30 cq_Mod_letter (List.mem_of_getElem? (i := 1175) (by decide +kernel)) (List.mem_of_getElem? (i := 35) (by decide +kernel)) (List.mem_of_getElem? (i := 1173) (by decide +kernel)) rfl hs1 rfl rfl (by decide) (cat_cons rfl (cat_cons rfl (cat_nil))) (Nat.le_of_ble_eq_true rfl) (PW.mono (kI_kN (fun r1 σ1 h => ?_)) h)
      refine pw_callS (vs := [.int r1]) (st := []) dc_Mod_isIndicator_33 cq_Mod_isLetter (List.mem_of_getElem? (i := 1185) (by decide +kernel)) (List.mem_of_getElem? (i := 1184) (by decide +kernel)) rfl rfl (cat_cons rfl (cat_nil)) (Nat.le_of_ble_eq_true rfl) (PW.mono (kI_kN (fun r2 σ2 h => ?_)) h)
      refine pw_istore_n dc_Mod_isIndicator_36 (by decide) ?_
      refine pw_iincv (v := 1) dc_Mod_isIndicator_37 (by decide) rfl (by decide) ?_
      refine pw_goto (tgt := 18) dc_Mod_isIndicator_40 (by decide) ?_
      exact h
theorem dc_Mod_indicatorOf_0 : decode M_Mod_indicatorOf.2.1 0 = .ok (.iconst 0, 1) := by decide +kernel
theorem dc_Mod_indicatorOf_1 : decode M_Mod_indicatorOf.2.1 1 = .ok (.istore_n 2, 1) := by decide +kernel
theorem dc_Mod_indicatorOf_2 : decode M_Mod_indicatorOf.2.1 2 = .ok (.iconst 0, 1) := by decide +kernel
theorem dc_Mod_indicatorOf_3 : decode M_Mod_indicatorOf.2.1 3 = .ok (.istore_n 3, 1) := by decide +kernel
theorem dc_Mod_indicatorOf_4 : decode M_Mod_indicatorOf.2.1 4 = .ok (.iload_n 3, 1) := by decide +kernel
theorem dc_Mod_indicatorOf_5 : decode M_Mod_indicatorOf.2.1 5 = .ok (.iconst 4, 1) := by decide +kernel
theorem dc_Mod_indicatorOf_6 : decode M_Mod_indicatorOf.2.1 6 = .ok (.if_icmp .ge 24, 3) := by decide +kernel
theorem dc_Mod_indicatorOf_9 : decode M_Mod_indicatorOf.2.1 9 = .ok (.bipush 26, 2) := by decide +kernel
theorem dc_Mod_indicatorOf_11 : decode M_Mod_indicatorOf.2.1 11 = .ok (.iload_n 2, 1) := by decide +kernel
theorem dc_Mod_indicatorOf_12 : decode M_Mod_indicatorOf.2.1 12 = .ok (.imul, 1) := by decide +kernel
theorem dc_Mod_indicatorOf_13 : decode M_Mod_indicatorOf.2.1 13 = .ok (.aload_n 0, 1) := by decide +kernel
theorem dc_Mod_indicatorOf_14 : decode M_Mod_indicatorOf.2.1 14 = .ok (.iload_n 1, 1) := by decide +kernel
theorem dc_Mod_indicatorOf_15 : decode M_Mod_indicatorOf.2.1 15 = .ok (.iload_n 3, 1) := by decide +kernel
theorem dc_Mod_indicatorOf_16 : decode M_Mod_indicatorOf.2.1 16 = .ok (.invokevirtual 195, 3) := by decide +kernel
theorem dc_Mod_indicatorOf_19 : decode M_Mod_indicatorOf.2.1 19 = .ok (.iadd, 1) := by decide +kernel
theorem dc_Mod_indicatorOf_20 : decode M_Mod_indicatorOf.2.1 20 = .ok (.bipush 65, 2) := by decide +kernel
theorem dc_Mod_indicatorOf_22 : decode M_Mod_indicatorOf.2.1 22 = .ok (.isub, 1) := by decide +kernel
theorem dc_Mod_indicatorOf_23 : decode M_Mod_indicatorOf.2.1 23 = .ok (.istore_n 2, 1) := by decide +kernel
theorem dc_Mod_indicatorOf_24 : decode M_Mod_indicatorOf.2.1 24 = .ok (.iinc 3 1, 3) := by decide +kernel
theorem dc_Mod_indicatorOf_27 : decode M_Mod_indicatorOf.2.1 27 = .ok (.goto (-23), 3) := by decide +kernel
theorem dc_Mod_indicatorOf_30 : decode M_Mod_indicatorOf.2.1 30 = .ok (.iload_n 2, 1) := by decide +kernel
theorem dc_Mod_indicatorOf_31 : decode M_Mod_indicatorOf.2.1 31 = .ok (.ireturn, 1) := by decide +kernel
set_option maxRecDepth 20000 in
theorem e_Mod_indicatorOf_0 {d : Nat} {σ : PH} {K : PO → PH → Prop} (x0 : Nat) (x1 : Int32) (h : PW (d + 1) M_Mod_indicatorOf 4 [.ref x0, .int x1, .int 0, .int 0] [] σ K) : PW (d + 1) M_Mod_indicatorOf 0 [.ref x0, .int x1, uu, uu] [] σ K := by
  refine pw_iconst (v := 0) dc_Mod_indicatorOf_0 (by decide) ?_
  refine pw_istore_n dc_Mod_indicatorOf_1 (by decide) ?_
  refine pw_iconst (v := 0) dc_Mod_indicatorOf_2 (by decide) ?_
  refine pw_istore_n dc_Mod_indicatorOf_3 (by decide) ?_
  exact h
set_option maxRecDepth 20000 in
theorem e_Mod_indicatorOf_4 {d : Nat} {σ : PH} {K : PO → PH → Prop} (x0 : Nat) (x1 : Int32) (x2 : Int32) (x3 : Int32) (h : (if 4 ≤ x3 then K (.inl (some (.int x2))) σ else sh σ x0 = (1, 11) ∧ PW d M_Mod_letter 0 [.ref x0, .int x1, .int x3] [] σ (kI (fun r1 σ1 => PW (d + 1) M_Mod_indicatorOf 4 [.ref x0, .int x1, .int (((26 * x2) + r1) - 65), .int (x3 + 1)] [] σ1 K) K))) : PW (d + 1) M_Mod_indicatorOf 4 [.ref x0, .int x1, .int x2, .int x3] [] σ K := by
  refine pw_iload_n dc_Mod_indicatorOf_4 rfl ?_
  refine pw_iconst (v := 4) dc_Mod_indicatorOf_5 (by decide) ?_
  refine pw_icmp_ge (tgt := 30) dc_Mod_indicatorOf_6 (by decide) (fun hc => ?_) (fun hc => ?_)
  · have h := ite_t h hc
    refine pw_iload_n dc_Mod_indicatorOf_30 rfl ?_
    exact pw_iret dc_Mod_indicatorOf_31 rfl rfl h
  · have h := ite_f h hc
    refine pw_bipush (v := 26) dc_Mod_indicatorOf_9 (by decide) ?_
    refine pw_iload_n dc_Mod_indicatorOf_11 rfl ?_
    refine pw_imul dc_Mod_indicatorOf_12 ?_
    refine pw_aload_n dc_Mod_indicatorOf_13 rfl rfl ?_
    refine pw_iload_n dc_Mod_indicatorOf_14 rfl ?_
    refine pw_iload_n dc_Mod_indicatorOf_15 rfl ?_
    obtain ⟨hs1, h⟩ := h
    refine pw_callV (vs := [.int x1, .int x3]) (st := [.int (26 * x2)]) (b := x0) (cn := 11) dc_Mod_indicatorOf_16 cq_Mod_letter (List.mem_of_getElem? (i := 1175) (by decide +kernel)) (List.mem_of_getElem? (i := 35) (by decide +kernel)) (List.mem_of_getElem? (i := 1173) (by decide +kernel)) rfl hs1 rfl rfl (by decide) (cat_cons rfl (cat_cons rfl (cat_nil))) (Nat.le_of_ble_eq_true rfl) (PW.mono (kI_kN (fun r1 σ1 h => ?_)) h)
    refine pw_iadd dc_Mod_indicatorOf_19 ?_
    refine pw_bipush (v := 65) dc_Mod_indicatorOf_20 (by decide) ?_
    refine pw_isub dc_Mod_indicatorOf_22 ?_
    refine pw_istore_n dc_Mod_indicatorOf_23 (by decide) ?_
    refine pw_iincv (v := 1) dc_Mod_indicatorOf_24 (by decide) rfl (by decide) ?_
    refine pw_goto (tgt := 4) dc_Mod_indicatorOf_27 (by decide) ?_
    exact h
theorem dc_Mod_faultOfText_0 : decode M_Mod_faultOfText.2.1 0 = .ok (.aload_n 0, 1) := by decide +kernel
theorem dc_Mod_faultOfText_1 : decode M_Mod_faultOfText.2.1 1 = .ok (.invokevirtual 201, 3) := by decide +kernel
theorem dc_Mod_faultOfText_4 : decode M_Mod_faultOfText.2.1 4 = .ok (.aload_n 0, 1) := by decide +kernel
theorem dc_Mod_faultOfText_5 : decode M_Mod_faultOfText.2.1 5 = .ok (.aload_n 0, 1) := by decide +kernel
theorem dc_Mod_faultOfText_6 : decode M_Mod_faultOfText.2.1 6 = .ok (.invokevirtual 204, 3) := by decide +kernel
theorem dc_Mod_faultOfText_9 : decode M_Mod_faultOfText.2.1 9 = .ok (.putfield 208, 3) := by decide +kernel
theorem dc_Mod_faultOfText_12 : decode M_Mod_faultOfText.2.1 12 = .ok (.aload_n 0, 1) := by decide +kernel
theorem dc_Mod_faultOfText_13 : decode M_Mod_faultOfText.2.1 13 = .ok (.getfield 208, 3) := by decide +kernel
theorem dc_Mod_faultOfText_16 : decode M_Mod_faultOfText.2.1 16 = .ok (.ifCond .ne 5, 3) := by decide +kernel
theorem dc_Mod_faultOfText_19 : decode M_Mod_faultOfText.2.1 19 = .ok (.iconst 1, 1) := by decide +kernel
theorem dc_Mod_faultOfText_20 : decode M_Mod_faultOfText.2.1 20 = .ok (.ireturn, 1) := by decide +kernel
theorem dc_Mod_faultOfText_21 : decode M_Mod_faultOfText.2.1 21 = .ok (.aload_n 0, 1) := by decide +kernel
theorem dc_Mod_faultOfText_22 : decode M_Mod_faultOfText.2.1 22 = .ok (.getfield 174, 3) := by decide +kernel
theorem dc_Mod_faultOfText_25 : decode M_Mod_faultOfText.2.1 25 = .ok (.ifCond .eq 5, 3) := by decide +kernel
theorem dc_Mod_faultOfText_28 : decode M_Mod_faultOfText.2.1 28 = .ok (.iconst 2, 1) := by decide +kernel
theorem dc_Mod_faultOfText_29 : decode M_Mod_faultOfText.2.1 29 = .ok (.ireturn, 1) := by decide +kernel
theorem dc_Mod_faultOfText_30 : decode M_Mod_faultOfText.2.1 30 = .ok (.aload_n 0, 1) := by decide +kernel
theorem dc_Mod_faultOfText_31 : decode M_Mod_faultOfText.2.1 31 = .ok (.getfield 189, 3) := by decide +kernel
theorem dc_Mod_faultOfText_34 : decode M_Mod_faultOfText.2.1 34 = .ok (.iconst 1, 1) := by decide +kernel
theorem dc_Mod_faultOfText_35 : decode M_Mod_faultOfText.2.1 35 = .ok (.if_icmp .le 28, 3) := by decide +kernel
theorem dc_Mod_faultOfText_38 : decode M_Mod_faultOfText.2.1 38 = .ok (.aload_n 0, 1) := by decide +kernel
theorem dc_Mod_faultOfText_39 : decode M_Mod_faultOfText.2.1 39 = .ok (.getfield 121, 3) := by decide +kernel
theorem dc_Mod_faultOfText_42 : decode M_Mod_faultOfText.2.1 42 = .ok (.iconst 1, 1) := by decide +kernel
theorem dc_Mod_faultOfText_43 : decode M_Mod_faultOfText.2.1 43 = .ok (.iaload, 1) := by decide +kernel
theorem dc_Mod_faultOfText_44 : decode M_Mod_faultOfText.2.1 44 = .ok (.iconst 1, 1) := by decide +kernel
theorem dc_Mod_faultOfText_45 : decode M_Mod_faultOfText.2.1 45 = .ok (.if_icmp .ne 18, 3) := by decide +kernel
theorem dc_Mod_faultOfText_48 : decode M_Mod_faultOfText.2.1 48 = .ok (.aload_n 0, 1) := by decide +kernel
theorem dc_Mod_faultOfText_49 : decode M_Mod_faultOfText.2.1 49 = .ok (.iconst 1, 1) := by decide +kernel
theorem dc_Mod_faultOfText_50 : decode M_Mod_faultOfText.2.1 50 = .ok (.iconst 0, 1) := by decide +kernel
theorem dc_Mod_faultOfText_51 : decode M_Mod_faultOfText.2.1 51 = .ok (.invokevirtual 195, 3) := by decide +kernel
theorem dc_Mod_faultOfText_54 : decode M_Mod_faultOfText.2.1 54 = .ok (.bipush 82, 2) := by decide +kernel
theorem dc_Mod_faultOfText_56 : decode M_Mod_faultOfText.2.1 56 = .ok (.if_icmp .ne 7, 3) := by decide +kernel
theorem dc_Mod_faultOfText_59 : decode M_Mod_faultOfText.2.1 59 = .ok (.iconst 2, 1) := by decide +kernel
theorem dc_Mod_faultOfText_60 : decode M_Mod_faultOfText.2.1 60 = .ok (.goto 4, 3) := by decide +kernel
theorem dc_Mod_faultOfText_63 : decode M_Mod_faultOfText.2.1 63 = .ok (.iconst 1, 1) := by decide +kernel
theorem dc_Mod_faultOfText_64 : decode M_Mod_faultOfText.2.1 64 = .ok (.istore_n 1, 1) := by decide +kernel
theorem dc_Mod_faultOfText_65 : decode M_Mod_faultOfText.2.1 65 = .ok (.iload_n 1, 1) := by decide +kernel
theorem dc_Mod_faultOfText_66 : decode M_Mod_faultOfText.2.1 66 = .ok (.aload_n 0, 1) := by decide +kernel
theorem dc_Mod_faultOfText_67 : decode M_Mod_faultOfText.2.1 67 = .ok (.getfield 189, 3) := by decide +kernel
theorem dc_Mod_faultOfText_70 : decode M_Mod_faultOfText.2.1 70 = .ok (.if_icmp .ge 39, 3) := by decide +kernel
theorem dc_Mod_faultOfText_73 : decode M_Mod_faultOfText.2.1 73 = .ok (.aload_n 0, 1) := by decide +kernel
theorem dc_Mod_faultOfText_74 : decode M_Mod_faultOfText.2.1 74 = .ok (.getfield 121, 3) := by decide +kernel
theorem dc_Mod_faultOfText_77 : decode M_Mod_faultOfText.2.1 77 = .ok (.iload_n 1, 1) := by decide +kernel
theorem dc_Mod_faultOfText_78 : decode M_Mod_faultOfText.2.1 78 = .ok (.iaload, 1) := by decide +kernel
theorem dc_Mod_faultOfText_79 : decode M_Mod_faultOfText.2.1 79 = .ok (.iconst 1, 1) := by decide +kernel
theorem dc_Mod_faultOfText_80 : decode M_Mod_faultOfText.2.1 80 = .ok (.if_icmp .ne 29, 3) := by decide +kernel
theorem dc_Mod_faultOfText_83 : decode M_Mod_faultOfText.2.1 83 = .ok (.aload_n 0, 1) := by decide +kernel
theorem dc_Mod_faultOfText_84 : decode M_Mod_faultOfText.2.1 84 = .ok (.iload_n 1, 1) := by decide +kernel
theorem dc_Mod_faultOfText_85 : decode M_Mod_faultOfText.2.1 85 = .ok (.iconst 0, 1) := by decide +kernel
theorem dc_Mod_faultOfText_86 : decode M_Mod_faultOfText.2.1 86 = .ok (.invokevirtual 195, 3) := by decide +kernel
theorem dc_Mod_faultOfText_89 : decode M_Mod_faultOfText.2.1 89 = .ok (.bipush 49, 2) := by decide +kernel
theorem dc_Mod_faultOfText_91 : decode M_Mod_faultOfText.2.1 91 = .ok (.if_icmp .lt 18, 3) := by decide +kernel
theorem dc_Mod_faultOfText_94 : decode M_Mod_faultOfText.2.1 94 = .ok (.aload_n 0, 1) := by decide +kernel
theorem dc_Mod_faultOfText_95 : decode M_Mod_faultOfText.2.1 95 = .ok (.iload_n 1, 1) := by decide +kernel
theorem dc_Mod_faultOfText_96 : decode M_Mod_faultOfText.2.1 96 = .ok (.iconst 0, 1) := by decide +kernel
theorem dc_Mod_faultOfText_97 : decode M_Mod_faultOfText.2.1 97 = .ok (.invokevirtual 195, 3) := by decide +kernel
theorem dc_Mod_faultOfText_100 : decode M_Mod_faultOfText.2.1 100 = .ok (.bipush 52, 2) := by decide +kernel
theorem dc_Mod_faultOfText_102 : decode M_Mod_faultOfText.2.1 102 = .ok (.if_icmp .gt 7, 3) := by decide +kernel
theorem dc_Mod_faultOfText_105 : decode M_Mod_faultOfText.2.1 105 = .ok (.iconst 1, 1) := by decide +kernel
theorem dc_Mod_faultOfText_106 : decode M_Mod_faultOfText.2.1 106 = .ok (.goto 4, 3) := by decide +kernel
theorem dc_Mod_faultOfText_109 : decode M_Mod_faultOfText.2.1 109 = .ok (.iconst 0, 1) := by decide +kernel
theorem dc_Mod_faultOfText_110 : decode M_Mod_faultOfText.2.1 110 = .ok (.istore_n 2, 1) := by decide +kernel
theorem dc_Mod_faultOfText_111 : decode M_Mod_faultOfText.2.1 111 = .ok (.iload_n 2, 1) := by decide +kernel
theorem dc_Mod_faultOfText_112 : decode M_Mod_faultOfText.2.1 112 = .ok (.ifCond .ne 5, 3) := by decide +kernel
theorem dc_Mod_faultOfText_115 : decode M_Mod_faultOfText.2.1 115 = .ok (.iconst 3, 1) := by decide +kernel
theorem dc_Mod_faultOfText_116 : decode M_Mod_faultOfText.2.1 116 = .ok (.ireturn, 1) := by decide +kernel
theorem dc_Mod_faultOfText_117 : decode M_Mod_faultOfText.2.1 117 = .ok (.aload_n 0, 1) := by decide +kernel
theorem dc_Mod_faultOfText_118 : decode M_Mod_faultOfText.2.1 118 = .ok (.aload_n 0, 1) := by decide +kernel
theorem dc_Mod_faultOfText_119 : decode M_Mod_faultOfText.2.1 119 = .ok (.iload_n 1, 1) := by decide +kernel
theorem dc_Mod_faultOfText_120 : decode M_Mod_faultOfText.2.1 120 = .ok (.iconst 0, 1) := by decide +kernel
theorem dc_Mod_faultOfText_121 : decode M_Mod_faultOfText.2.1 121 = .ok (.invokevirtual 195, 3) := by decide +kernel
theorem dc_Mod_faultOfText_124 : decode M_Mod_faultOfText.2.1 124 = .ok (.bipush 48, 2) := by decide +kernel
theorem dc_Mod_faultOfText_126 : decode M_Mod_faultOfText.2.1 126 = .ok (.isub, 1) := by decide +kernel
theorem dc_Mod_faultOfText_127 : decode M_Mod_faultOfText.2.1 127 = .ok (.putfield 211, 3) := by decide +kernel
theorem dc_Mod_faultOfText_130 : decode M_Mod_faultOfText.2.1 130 = .ok (.aload_n 0, 1) := by decide +kernel
theorem dc_Mod_faultOfText_131 : decode M_Mod_faultOfText.2.1 131 = .ok (.iload_n 1, 1) := by decide +kernel
theorem dc_Mod_faultOfText_132 : decode M_Mod_faultOfText.2.1 132 = .ok (.iconst 1, 1) := by decide +kernel
theorem dc_Mod_faultOfText_133 : decode M_Mod_faultOfText.2.1 133 = .ok (.iadd, 1) := by decide +kernel
theorem dc_Mod_faultOfText_134 : decode M_Mod_faultOfText.2.1 134 = .ok (.putfield 214, 3) := by decide +kernel
theorem dc_Mod_faultOfText_137 : decode M_Mod_faultOfText.2.1 137 = .ok (.aload_n 0, 1) := by decide +kernel
theorem dc_Mod_faultOfText_138 : decode M_Mod_faultOfText.2.1 138 = .ok (.getfield 189, 3) := by decide +kernel
theorem dc_Mod_faultOfText_141 : decode M_Mod_faultOfText.2.1 141 = .ok (.aload_n 0, 1) := by decide +kernel
theorem dc_Mod_faultOfText_142 : decode M_Mod_faultOfText.2.1 142 = .ok (.getfield 214, 3) := by decide +kernel
theorem dc_Mod_faultOfText_145 : decode M_Mod_faultOfText.2.1 145 = .ok (.if_icmp .le 20, 3) := by decide +kernel
theorem dc_Mod_faultOfText_148 : decode M_Mod_faultOfText.2.1 148 = .ok (.aload_n 0, 1) := by decide +kernel
theorem dc_Mod_faultOfText_149 : decode M_Mod_faultOfText.2.1 149 = .ok (.getfield 189, 3) := by decide +kernel
theorem dc_Mod_faultOfText_152 : decode M_Mod_faultOfText.2.1 152 = .ok (.aload_n 0, 1) := by decide +kernel
theorem dc_Mod_faultOfText_153 : decode M_Mod_faultOfText.2.1 153 = .ok (.getfield 214, 3) := by decide +kernel
theorem dc_Mod_faultOfText_156 : decode M_Mod_faultOfText.2.1 156 = .ok (.isub, 1) := by decide +kernel
theorem dc_Mod_faultOfText_157 : decode M_Mod_faultOfText.2.1 157 = .ok (.iconst 4, 1) := by decide +kernel
theorem dc_Mod_faultOfText_158 : decode M_Mod_faultOfText.2.1 158 = .ok (.if_icmp .gt 7, 3) := by decide +kernel
theorem dc_Mod_faultOfText_161 : decode M_Mod_faultOfText.2.1 161 = .ok (.iconst 1, 1) := by decide +kernel
theorem dc_Mod_faultOfText_162 : decode M_Mod_faultOfText.2.1 162 = .ok (.goto 4, 3) := by decide +kernel
theorem dc_Mod_faultOfText_165 : decode M_Mod_faultOfText.2.1 165 = .ok (.iconst 0, 1) := by decide +kernel
theorem dc_Mod_faultOfText_166 : decode M_Mod_faultOfText.2.1 166 = .ok (.istore_n 3, 1) := by decide +kernel
theorem dc_Mod_faultOfText_167 : decode M_Mod_faultOfText.2.1 167 = .ok (.aload_n 0, 1) := by decide +kernel
theorem dc_Mod_faultOfText_168 : decode M_Mod_faultOfText.2.1 168 = .ok (.getfield 214, 3) := by decide +kernel
theorem dc_Mod_faultOfText_171 : decode M_Mod_faultOfText.2.1 171 = .ok (.istore 4, 2) := by decide +kernel
theorem dc_Mod_faultOfText_173 : decode M_Mod_faultOfText.2.1 173 = .ok (.iload 4, 2) := by decide +kernel
theorem dc_Mod_faultOfText_175 : decode M_Mod_faultOfText.2.1 175 = .ok (.aload_n 0, 1) := by decide +kernel
theorem dc_Mod_faultOfText_176 : decode M_Mod_faultOfText.2.1 176 = .ok (.getfield 189, 3) := by decide +kernel
theorem dc_Mod_faultOfText_179 : decode M_Mod_faultOfText.2.1 179 = .ok (.if_icmp .ge 28, 3) := by decide +kernel
theorem dc_Mod_faultOfText_182 : decode M_Mod_faultOfText.2.1 182 = .ok (.iload_n 3, 1) := by decide +kernel
theorem dc_Mod_faultOfText_183 : decode M_Mod_faultOfText.2.1 183 = .ok (.ifCond .eq 16, 3) := by decide +kernel
theorem dc_Mod_faultOfText_186 : decode M_Mod_faultOfText.2.1 186 = .ok (.aload_n 0, 1) := by decide +kernel
theorem dc_Mod_faultOfText_187 : decode M_Mod_faultOfText.2.1 187 = .ok (.iload 4, 2) := by decide +kernel
theorem dc_Mod_faultOfText_189 : decode M_Mod_faultOfText.2.1 189 = .ok (.invokevirtual 217, 3) := by decide +kernel
theorem dc_Mod_faultOfText_192 : decode M_Mod_faultOfText.2.1 192 = .ok (.ifCond .eq 7, 3) := by decide +kernel
theorem dc_Mod_faultOfText_195 : decode M_Mod_faultOfText.2.1 195 = .ok (.iconst 1, 1) := by decide +kernel
theorem dc_Mod_faultOfText_196 : decode M_Mod_faultOfText.2.1 196 = .ok (.goto 4, 3) := by decide +kernel
theorem dc_Mod_faultOfText_199 : decode M_Mod_faultOfText.2.1 199 = .ok (.iconst 0, 1) := by decide +kernel
theorem dc_Mod_faultOfText_200 : decode M_Mod_faultOfText.2.1 200 = .ok (.istore_n 3, 1) := by decide +kernel
theorem dc_Mod_faultOfText_201 : decode M_Mod_faultOfText.2.1 201 = .ok (.iinc 4 1, 3) := by decide +kernel
theorem dc_Mod_faultOfText_204 : decode M_Mod_faultOfText.2.1 204 = .ok (.goto (-31), 3) := by decide +kernel
theorem dc_Mod_faultOfText_207 : decode M_Mod_faultOfText.2.1 207 = .ok (.iload_n 3, 1) := by decide +kernel
theorem dc_Mod_faultOfText_208 : decode M_Mod_faultOfText.2.1 208 = .ok (.ifCond .eq 7, 3) := by decide +kernel
theorem dc_Mod_faultOfText_211 : decode M_Mod_faultOfText.2.1 211 = .ok (.iconst 0, 1) := by decide +kernel
theorem dc_Mod_faultOfText_212 : decode M_Mod_faultOfText.2.1 212 = .ok (.goto 4, 3) := by decide +kernel
theorem dc_Mod_faultOfText_215 : decode M_Mod_faultOfText.2.1 215 = .ok (.iconst 4, 1) := by decide +kernel
theorem dc_Mod_faultOfText_216 : decode M_Mod_faultOfText.2.1 216 = .ok (.ireturn, 1) := by decide +kernel
set_option maxRecDepth 20000 in
theorem e_Mod_faultOfText_0 {d : Nat} {σ : PH} {K : PO → PH → Prop} (x0 : Nat) (h : sh σ x0 = (1, 11) ∧ PW d M_Mod_part 0 [.ref x0, uu] [] σ (kV (fun σ1 => sh σ1 x0 = (1, 11) ∧ PW d M_Mod_numberWord 0 [.ref x0, uu, uu] [] σ1 (kI (fun r1 σ2 => sh σ2 x0 = (1, 11) ∧ (∀ σ3 : PH, σ3 = pI σ2 748 x0 r1 → sh σ3 x0 = (1, 11) ∧ (if (gI σ3 748 x0) = 0 then K (.inl (some (.int 1))) σ3 else (if (gI σ3 744 x0) = 0 then (if (gI σ3 745 x0) ≤ 1 then PW (d + 1) M_Mod_faultOfText 63 [.ref x0, uu, uu, uu, uu] [] σ3 K else (∃ b1 : Nat, gR σ3 747 x0 = some b1 ∧ (∃ n1 : Nat, sh σ3 b1 = (2, n1) ∧ vp_in 1 n1 ∧ (if (eI σ3 b1 (ix 1)) = 1 then PW d M_Mod_letter 0 [.ref x0, .int 1, .int 0] [] σ3 (kI (fun r2 σ4 => (if r2 = 82 then PW (d + 1) M_Mod_faultOfText 64 [.ref x0, uu, uu, uu, uu] [.int 2] σ4 K else PW (d + 1) M_Mod_faultOfText 63 [.ref x0, uu, uu, uu, uu] [] σ4 K)) K) else PW (d + 1) M_Mod_faultOfText 63 [.ref x0, uu, uu, uu, uu] [] σ3 K)))) else K (.inl (some (.int 2))) σ3)))) K)) K)) : PW (d + 1) M_Mod_faultOfText 0 [.ref x0, uu, uu, uu, uu] [] σ K := by
  refine pw_aload_n dc_Mod_faultOfText_0 rfl rfl ?_
  obtain ⟨hs1, h⟩ := h
  refine pw_callV (vs := []) (st := []) (b := x0) (cn := 11) dc_Mod_faultOfText_1 cq_Mod_part (List.mem_of_getElem? (i := 1167) (by decide +kernel)) (List.mem_of_getElem? (i := 33) (by decide +kernel)) (List.mem_of_getElem? (i := 1165) (by decide +kernel)) rfl hs1 rfl rfl (by decide) (cat_nil) (Nat.le_of_ble_eq_true rfl) (PW.mono (kV_kN (fun σ1 h => ?_)) h)
  refine pw_aload_n dc_Mod_faultOfText_4 rfl rfl ?_
  refine pw_aload_n dc_Mod_faultOfText_5 rfl rfl ?_
  obtain ⟨hs2, h⟩ := h
  refine pw_callV (vs := []) (st := [.ref x0]) (b := x0) (cn := 11) dc_Mod_faultOfText_6 cq_Mod_numberWord (List.mem_of_getElem? (i := 1171) (by decide +kernel)) (List.mem_of_getElem? (i := 34) (by decide +kernel)) (List.mem_of_getElem? (i := 1169) (by decide +kernel)) rfl hs2 rfl rfl (by decide) (cat_nil) (Nat.le_of_ble_eq_true rfl) (PW.mono (kI_kN (fun r1 σ2 h => ?_)) h)
  obtain ⟨hs3, h⟩ := h
  have h := h _ rfl
  refine pw_putI (c := 11) (k := 44) (f := 748) dc_Mod_faultOfText_9 fl_Mod_208 (Or.inl rfl) rfl rfl hs3 ?_
  refine pw_aload_n dc_Mod_faultOfText_12 rfl rfl ?_
  obtain ⟨hs4, h⟩ := h
  refine pw_getI (c := 11) (k := 44) (f := 748) dc_Mod_faultOfText_13 fl_Mod_208 rfl rfl hs4 ?_
  refine pw_if_ne (tgt := 21) dc_Mod_faultOfText_16 (by decide) (fun hc => ?_) (fun hc => ?_)
  · have h := ite_f h hc
    refine pw_aload_n dc_Mod_faultOfText_21 rfl rfl ?_
    refine pw_getI (c := 11) (k := 40) (f := 744) dc_Mod_faultOfText_22 fl_Mod_174 rfl rfl hs4 ?_
    refine pw_if_eq (tgt := 30) dc_Mod_faultOfText_25 (by decide) (fun hc => ?_) (fun hc => ?_)
    · have h := ite_t h hc
      refine pw_aload_n dc_Mod_faultOfText_30 rfl rfl ?_
      refine pw_getI (c := 11) (k := 41) (f := 745) dc_Mod_faultOfText_31 fl_Mod_189 rfl rfl hs4 ?_
      refine pw_iconst (v := 1) dc_Mod_faultOfText_34 (by decide) ?_
      refine pw_icmp_le (tgt := 63) dc_Mod_faultOfText_35 (by decide) (fun hc => ?_) (fun hc => ?_)
      · have h := ite_t h hc
        exact h
      · have h := ite_f h hc
        refine pw_aload_n dc_Mod_faultOfText_38 rfl rfl ?_
        refine pw_getR (c := 11) (k := 43) (f := 747) dc_Mod_faultOfText_39 fl_Mod_121 rfl rfl hs4 ?_
        obtain ⟨b1, hb1, h⟩ := h
        refine PW.top (v' := .ref b1) (congrArg va_rf hb1) ?_
        refine pw_iconst (v := 1) dc_Mod_faultOfText_42 (by decide) ?_
        obtain ⟨n1, hs5, h⟩ := h
        obtain ⟨hi1, h⟩ := h
        refine pw_iald dc_Mod_faultOfText_43 hs5 hi1 ?_
        refine pw_iconst (v := 1) dc_Mod_faultOfText_44 (by decide) ?_
        refine pw_icmp_ne (tgt := 63) dc_Mod_faultOfText_45 (by decide) (fun hc => ?_) (fun hc => ?_)
        · have h := ite_f h hc
          exact h
        · have h := ite_t h hc
          refine pw_aload_n dc_Mod_faultOfText_48 rfl rfl ?_
          refine pw_iconst (v := 1) dc_Mod_faultOfText_49 (by decide) ?_
          refine pw_iconst (v := 0) dc_Mod_faultOfText_50 (by decide) ?_
          refine pw_callV (vs := [.int 1, .int 0]) (st := []) (b := x0) (cn := 11) dc_Mod_faultOfText_51 cq_Mod_letter (List.mem_of_getElem? (i := 1175) (by decide +kernel)) (List.mem_of_getElem? (i := 35) (by decide +kernel)) (List.mem_of_getElem? (i := 1173) (by decide +kernel)) rfl hs4 rfl rfl (by decide) (cat_cons rfl (cat_cons rfl (cat_nil))) (Nat.le_of_ble_eq_true rfl) (PW.mono (kI_kN (fun r2 σ4 h => ?_)) h)
          refine pw_bipush (v := 82) dc_Mod_faultOfText_54 (by decide) ?_
          refine pw_icmp_ne (tgt := 63) dc_Mod_faultOfText_56 (by decide) (fun hc => ?_) (fun hc => ?_)
          · have h := ite_f h hc
            exact h
          · have h := ite_t h hc
            refine pw_iconst (v := 2) dc_Mod_faultOfText_59 (by decide) ?_
            refine pw_goto (tgt := 64) dc_Mod_faultOfText_60 (by decide) ?_
            exact h
    · have h := ite_f h hc
      refine pw_iconst (v := 2) dc_Mod_faultOfText_28 (by decide) ?_
      exact pw_iret dc_Mod_faultOfText_29 rfl rfl h
  · have h := ite_t h hc
    refine pw_iconst (v := 1) dc_Mod_faultOfText_19 (by decide) ?_
    exact pw_iret dc_Mod_faultOfText_20 rfl rfl h
set_option maxRecDepth 20000 in
theorem e_Mod_faultOfText_63 {d : Nat} {σ : PH} {K : PO → PH → Prop} (x0 : Nat) (h : PW (d + 1) M_Mod_faultOfText 64 [.ref x0, uu, uu, uu, uu] [.int 1] σ K) : PW (d + 1) M_Mod_faultOfText 63 [.ref x0, uu, uu, uu, uu] [] σ K := by
  refine pw_iconst (v := 1) dc_Mod_faultOfText_63 (by decide) ?_
  exact h
set_option maxRecDepth 20000 in
theorem e_Mod_faultOfText_64 {d : Nat} {σ : PH} {K : PO → PH → Prop} (x0 : Nat) (y0 : Int32) (h : sh σ x0 = (1, 11) ∧ (if (gI σ 745 x0) ≤ y0 then PW (d + 1) M_Mod_faultOfText 109 [.ref x0, .int y0, uu, uu, uu] [] σ K else (∃ b1 : Nat, gR σ 747 x0 = some b1 ∧ (∃ n1 : Nat, sh σ b1 = (2, n1) ∧ vp_in y0 n1 ∧ (if (eI σ b1 (ix y0)) = 1 then PW d M_Mod_letter 0 [.ref x0, .int y0, .int 0] [] σ (kI (fun r1 σ1 => (if r1 < 49 then PW (d + 1) M_Mod_faultOfText 109 [.ref x0, .int y0, uu, uu, uu] [] σ1 K else sh σ1 x0 = (1, 11) ∧ PW d M_Mod_letter 0 [.ref x0, .int y0, .int 0] [] σ1 (kI (fun r2 σ2 => (if 52 < r2 then PW (d + 1) M_Mod_faultOfText 109 [.ref x0, .int y0, uu, uu, uu] [] σ2 K else PW (d + 1) M_Mod_faultOfText 110 [.ref x0, .int y0, uu, uu, uu] [.int 1] σ2 K)) K))) K) else PW (d + 1) M_Mod_faultOfText 109 [.ref x0, .int y0, uu, uu, uu] [] σ K))))) : PW (d + 1) M_Mod_faultOfText 64 [.ref x0, uu, uu, uu, uu] [.int y0] σ K := by
  refine pw_istore_n dc_Mod_faultOfText_64 (by decide) ?_
  refine pw_iload_n dc_Mod_faultOfText_65 rfl ?_
  refine pw_aload_n dc_Mod_faultOfText_66 rfl rfl ?_
  obtain ⟨hs1, h⟩ := h
  refine pw_getI (c := 11) (k := 41) (f := 745) dc_Mod_faultOfText_67 fl_Mod_189 rfl rfl hs1 ?_
  refine pw_icmp_ge (tgt := 109) dc_Mod_faultOfText_70 (by decide) (fun hc => ?_) (fun hc => ?_)
  · have h := ite_t h hc
    exact h
  · have h := ite_f h hc
    refine pw_aload_n dc_Mod_faultOfText_73 rfl rfl ?_
    refine pw_getR (c := 11) (k := 43) (f := 747) dc_Mod_faultOfText_74 fl_Mod_121 rfl rfl hs1 ?_
    obtain ⟨b1, hb1, h⟩ := h
    refine PW.top (v' := .ref b1) (congrArg va_rf hb1) ?_
    refine pw_iload_n dc_Mod_faultOfText_77 rfl ?_
    obtain ⟨n1, hs2, h⟩ := h
    obtain ⟨hi1, h⟩ := h
    refine pw_iald dc_Mod_faultOfText_78 hs2 hi1 ?_
    refine pw_iconst (v := 1) dc_Mod_faultOfText_79 (by decide) ?_
    refine pw_icmp_ne (tgt := 109) dc_Mod_faultOfText_80 (by decide) (fun hc => ?_) (fun hc => ?_)
    · have h := ite_f h hc
      exact h
    · have h := ite_t h hc
      refine pw_aload_n dc_Mod_faultOfText_83 rfl rfl ?_
      refine pw_iload_n dc_Mod_faultOfText_84 rfl ?_
      refine pw_iconst (v := 0) dc_Mod_faultOfText_85 (by decide) ?_
      refine pw_callV (vs := [.int y0, .int 0]) (st := []) (b := x0) (cn := 11) dc_Mod_faultOfText_86 cq_Mod_letter (List.mem_of_getElem? (i := 1175) (by decide +kernel)) (List.mem_of_getElem? (i := 35) (by decide +kernel)) (List.mem_of_getElem? (i := 1173) (by decide +kernel)) rfl hs1 rfl rfl (by decide) (cat_cons rfl (cat_cons rfl (cat_nil))) (Nat.le_of_ble_eq_true rfl) (PW.mono (kI_kN (fun r1 σ1 h => ?_)) h)
      refine pw_bipush (v := 49) dc_Mod_faultOfText_89 (by decide) ?_
      refine pw_icmp_lt (tgt := 109) dc_Mod_faultOfText_91 (by decide) (fun hc => ?_) (fun hc => ?_)
      · have h := ite_t h hc
        exact h
      · have h := ite_f h hc
        refine pw_aload_n dc_Mod_faultOfText_94 rfl rfl ?_
        refine pw_iload_n dc_Mod_faultOfText_95 rfl ?_
        refine pw_iconst (v := 0) dc_Mod_faultOfText_96 (by decide) ?_
        obtain ⟨hs3, h⟩ := h
        refine pw_callV (vs := [.int y0, .int 0]) (st := []) (b := x0) (cn := 11) dc_Mod_faultOfText_97 cq_Mod_letter (List.mem_of_getElem? (i := 1175) (by decide +kernel)) (List.mem_of_getElem? (i := 35) (by decide +kernel)) (List.mem_of_getElem? (i := 1173) (by decide +kernel)) rfl hs3 rfl rfl (by decide) (cat_cons rfl (cat_cons rfl (cat_nil))) (Nat.le_of_ble_eq_true rfl) (PW.mono (kI_kN (fun r2 σ2 h => ?_)) h)
        refine pw_bipush (v := 52) dc_Mod_faultOfText_100 (by decide) ?_
        refine pw_icmp_gt (tgt := 109) dc_Mod_faultOfText_102 (by decide) (fun hc => ?_) (fun hc => ?_)
        · have h := ite_t h hc
          exact h
        · have h := ite_f h hc
          refine pw_iconst (v := 1) dc_Mod_faultOfText_105 (by decide) ?_
          refine pw_goto (tgt := 110) dc_Mod_faultOfText_106 (by decide) ?_
          exact h
set_option maxRecDepth 20000 in
theorem e_Mod_faultOfText_109 {d : Nat} {σ : PH} {K : PO → PH → Prop} (x0 : Nat) (x1 : Int32) (h : PW (d + 1) M_Mod_faultOfText 110 [.ref x0, .int x1, uu, uu, uu] [.int 0] σ K) : PW (d + 1) M_Mod_faultOfText 109 [.ref x0, .int x1, uu, uu, uu] [] σ K := by
  refine pw_iconst (v := 0) dc_Mod_faultOfText_109 (by decide) ?_
  exact h
set_option maxRecDepth 20000 in
theorem e_Mod_faultOfText_110 {d : Nat} {σ : PH} {K : PO → PH → Prop} (x0 : Nat) (x1 : Int32) (y0 : Int32) (h : (if y0 = 0 then K (.inl (some (.int 3))) σ else sh σ x0 = (1, 11) ∧ PW d M_Mod_letter 0 [.ref x0, .int x1, .int 0] [] σ (kI (fun r1 σ1 => sh σ1 x0 = (1, 11) ∧ (∀ σ2 : PH, σ2 = pI σ1 749 x0 (r1 - 48) → sh σ2 x0 = (1, 11) ∧ (∀ σ3 : PH, σ3 = pI σ2 750 x0 (x1 + 1) → sh σ3 x0 = (1, 11) ∧ (if (gI σ3 745 x0) ≤ (gI σ3 750 x0) then PW (d + 1) M_Mod_faultOfText 165 [.ref x0, uu, uu, uu, uu] [] σ3 K else (if 4 < ((gI σ3 745 x0) - (gI σ3 750 x0)) then PW (d + 1) M_Mod_faultOfText 165 [.ref x0, uu, uu, uu, uu] [] σ3 K else PW (d + 1) M_Mod_faultOfText 166 [.ref x0, uu, uu, uu, uu] [.int 1] σ3 K))))) K))) : PW (d + 1) M_Mod_faultOfText 110 [.ref x0, .int x1, uu, uu, uu] [.int y0] σ K := by
  refine pw_istore_n dc_Mod_faultOfText_110 (by decide) ?_
  refine pw_iload_n dc_Mod_faultOfText_111 rfl ?_
  refine pw_if_ne (tgt := 117) dc_Mod_faultOfText_112 (by decide) (fun hc => ?_) (fun hc => ?_)
  · have h := ite_f h hc
    refine pw_aload_n dc_Mod_faultOfText_117 rfl rfl ?_
    refine pw_aload_n dc_Mod_faultOfText_118 rfl rfl ?_
    refine pw_iload_n dc_Mod_faultOfText_119 rfl ?_
    refine pw_iconst (v := 0) dc_Mod_faultOfText_120 (by decide) ?_
    obtain ⟨hs1, h⟩ := h
    refine pw_callV (vs := [.int x1, .int 0]) (st := [.ref x0]) (b := x0) (cn := 11) dc_Mod_faultOfText_121 cq_Mod_letter (List.mem_of_getElem? (i := 1175) (by decide +kernel)) (List.mem_of_getElem? (i := 35) (by decide +kernel)) (List.mem_of_getElem? (i := 1173) (by decide +kernel)) rfl hs1 rfl rfl (by decide) (cat_cons rfl (cat_cons rfl (cat_nil))) (Nat.le_of_ble_eq_true rfl) (PW.mono (kI_kN (fun r1 σ1 h => ?_)) h)
    refine pw_bipush (v := 48) dc_Mod_faultOfText_124 (by decide) ?_
    refine pw_isub dc_Mod_faultOfText_126 ?_
    obtain ⟨hs2, h⟩ := h
    have h := h _ rfl
    refine pw_putI (c := 11) (k := 45) (f := 749) dc_Mod_faultOfText_127 fl_Mod_211 (Or.inl rfl) rfl rfl hs2 ?_
    refine pw_aload_n dc_Mod_faultOfText_130 rfl rfl ?_
    refine pw_iload_n dc_Mod_faultOfText_131 rfl ?_
    refine pw_iconst (v := 1) dc_Mod_faultOfText_132 (by decide) ?_
    refine pw_iadd dc_Mod_faultOfText_133 ?_
    obtain ⟨hs3, h⟩ := h
    have h := h _ rfl
    refine pw_putI (c := 11) (k := 46) (f := 750) dc_Mod_faultOfText_134 fl_Mod_214 (Or.inl rfl) rfl rfl hs3 ?_
    refine pw_aload_n dc_Mod_faultOfText_137 rfl rfl ?_
    obtain ⟨hs4, h⟩ := h
    refine pw_getI (c := 11) (k := 41) (f := 745) dc_Mod_faultOfText_138 fl_Mod_189 rfl rfl hs4 ?_
    refine pw_aload_n dc_Mod_faultOfText_141 rfl rfl ?_
    refine pw_getI (c := 11) (k := 46) (f := 750) dc_Mod_faultOfText_142 fl_Mod_214 rfl rfl hs4 ?_
    refine pw_icmp_le (tgt := 165) dc_Mod_faultOfText_145 (by decide) (fun hc => ?_) (fun hc => ?_)
    · have h := ite_t h hc
      refine PW.drop (ls' := [.ref x0, uu, uu, uu, uu]) ⟨Or.inl rfl, Or.inr rfl, Or.inr rfl, Or.inl rfl, Or.inl rfl, trivial⟩ ?_
      exact h
    · have h := ite_f h hc
      refine pw_aload_n dc_Mod_faultOfText_148 rfl rfl ?_
      refine pw_getI (c := 11) (k := 41) (f := 745) dc_Mod_faultOfText_149 fl_Mod_189 rfl rfl hs4 ?_
      refine pw_aload_n dc_Mod_faultOfText_152 rfl rfl ?_
      refine pw_getI (c := 11) (k := 46) (f := 750) dc_Mod_faultOfText_153 fl_Mod_214 rfl rfl hs4 ?_
      refine pw_isub dc_Mod_faultOfText_156 ?_
      refine pw_iconst (v := 4) dc_Mod_faultOfText_157 (by decide) ?_
      refine pw_icmp_gt (tgt := 165) dc_Mod_faultOfText_158 (by decide) (fun hc => ?_) (fun hc => ?_)
      · have h := ite_t h hc
        refine PW.drop (ls' := [.ref x0, uu, uu, uu, uu]) ⟨Or.inl rfl, Or.inr rfl, Or.inr rfl, Or.inl rfl, Or.inl rfl, trivial⟩ ?_
        exact h
      · have h := ite_f h hc
        refine pw_iconst (v := 1) dc_Mod_faultOfText_161 (by decide) ?_
        refine pw_goto (tgt := 166) dc_Mod_faultOfText_162 (by decide) ?_
        refine PW.drop (ls' := [.ref x0, uu, uu, uu, uu]) ⟨Or.inl rfl, Or.inr rfl, Or.inr rfl, Or.inl rfl, Or.inl rfl, trivial⟩ ?_
        exact h
  · have h := ite_t h hc
    refine pw_iconst (v := 3) dc_Mod_faultOfText_115 (by decide) ?_
    exact pw_iret dc_Mod_faultOfText_116 rfl rfl h
set_option maxRecDepth 20000 in
theorem e_Mod_faultOfText_165 {d : Nat} {σ : PH} {K : PO → PH → Prop} (x0 : Nat) (h : PW (d + 1) M_Mod_faultOfText 166 [.ref x0, uu, uu, uu, uu] [.int 0] σ K) : PW (d + 1) M_Mod_faultOfText 165 [.ref x0, uu, uu, uu, uu] [] σ K := by
  refine pw_iconst (v := 0) dc_Mod_faultOfText_165 (by decide) ?_
  exact h
set_option maxRecDepth 20000 in
theorem e_Mod_faultOfText_166 {d : Nat} {σ : PH} {K : PO → PH → Prop} (x0 : Nat) (y0 : Int32) (h : sh σ x0 = (1, 11) ∧ PW (d + 1) M_Mod_faultOfText 173 [.ref x0, uu, uu, .int y0, .int (gI σ 750 x0)] [] σ K) : PW (d + 1) M_Mod_faultOfText 166 [.ref x0, uu, uu, uu, uu] [.int y0] σ K := by
  refine pw_istore_n dc_Mod_faultOfText_166 (by decide) ?_
  refine pw_aload_n dc_Mod_faultOfText_167 rfl rfl ?_
  obtain ⟨hs1, h⟩ := h
  refine pw_getI (c := 11) (k := 46) (f := 750) dc_Mod_faultOfText_168 fl_Mod_214 rfl rfl hs1 ?_
  refine pw_istore dc_Mod_faultOfText_171 (by decide) ?_
  exact h
set_option maxRecDepth 20000 in
theorem e_Mod_faultOfText_173 {d : Nat} {σ : PH} {K : PO → PH → Prop} (x0 : Nat) (x3 : Int32) (x4 : Int32) (h : sh σ x0 = (1, 11) ∧ (if (gI σ 745 x0) ≤ x4 then (if x3 = 0 then K (.inl (some (.int 4))) σ else K (.inl (some (.int 0))) σ) else (if x3 = 0 then PW (d + 1) M_Mod_faultOfText 199 [.ref x0, uu, uu, uu, .int x4] [] σ K else PW d M_Mod_isIndicator 0 [.ref x0, .int x4, uu, uu] [] σ (kI (fun r1 σ1 => (if r1 = 0 then PW (d + 1) M_Mod_faultOfText 199 [.ref x0, uu, uu, uu, .int x4] [] σ1 K else PW (d + 1) M_Mod_faultOfText 200 [.ref x0, uu, uu, uu, .int x4] [.int 1] σ1 K)) K)))) : PW (d + 1) M_Mod_faultOfText 173 [.ref x0, uu, uu, .int x3, .int x4] [] σ K := by
  refine pw_iload dc_Mod_faultOfText_173 rfl ?_
  refine pw_aload_n dc_Mod_faultOfText_175 rfl rfl ?_
  obtain ⟨hs1, h⟩ := h
  refine pw_getI (c := 11) (k := 41) (f := 745) dc_Mod_faultOfText_176 fl_Mod_189 rfl rfl hs1 ?_
  refine pw_icmp_ge (tgt := 207) dc_Mod_faultOfText_179 (by decide) (fun hc => ?_) (fun hc => ?_)
  · have h := ite_t h hc
    refine pw_iload_n dc_Mod_faultOfText_207 rfl ?_
    refine pw_if_eq (tgt := 215) dc_Mod_faultOfText_208 (by decide) (fun hc => ?_) (fun hc => ?_)
    · have h := ite_t h hc
      refine pw_iconst (v := 4) dc_Mod_faultOfText_215 (by decide) ?_
      exact pw_iret dc_Mod_faultOfText_216 rfl rfl h
    · have h := ite_f h hc
      refine pw_iconst (v := 0) dc_Mod_faultOfText_211 (by decide) ?_
      refine pw_goto (tgt := 216) dc_Mod_faultOfText_212 (by decide) ?_
      exact pw_iret dc_Mod_faultOfText_216 rfl rfl h
  · have h := ite_f h hc
    refine pw_iload_n dc_Mod_faultOfText_182 rfl ?_
    refine pw_if_eq (tgt := 199) dc_Mod_faultOfText_183 (by decide) (fun hc => ?_) (fun hc => ?_)
    · have h := ite_t h hc
      refine PW.drop (ls' := [.ref x0, uu, uu, uu, .int x4]) ⟨Or.inl rfl, Or.inl rfl, Or.inl rfl, Or.inr rfl, Or.inl rfl, trivial⟩ ?_
      exact h
    · have h := ite_f h hc
      refine pw_aload_n dc_Mod_faultOfText_186 rfl rfl ?_
      refine pw_iload dc_Mod_faultOfText_187 rfl ?_
      refine pw_callV (vs := [.int x4]) (st := []) (b := x0) (cn := 11) dc_Mod_faultOfText_189 cq_Mod_isIndicator (List.mem_of_getElem? (i := 1182) (by decide +kernel)) (List.mem_of_getElem? (i := 36) (by decide +kernel)) (List.mem_of_getElem? (i := 1180) (by decide +kernel)) rfl hs1 rfl rfl (by decide) (cat_cons rfl (cat_nil)) (Nat.le_of_ble_eq_true rfl) (PW.mono (kI_kN (fun r1 σ1 h => ?_)) h)
      refine pw_if_eq (tgt := 199) dc_Mod_faultOfText_192 (by decide) (fun hc => ?_) (fun hc => ?_)
      · have h := ite_t h hc
        refine PW.drop (ls' := [.ref x0, uu, uu, uu, .int x4]) ⟨Or.inl rfl, Or.inl rfl, Or.inl rfl, Or.inr rfl, Or.inl rfl, trivial⟩ ?_
        exact h
      · have h := ite_f h hc
        refine pw_iconst (v := 1) dc_Mod_faultOfText_195 (by decide) ?_
        refine pw_goto (tgt := 200) dc_Mod_faultOfText_196 (by decide) ?_
        refine PW.drop (ls' := [.ref x0, uu, uu, uu, .int x4]) ⟨Or.inl rfl, Or.inl rfl, Or.inl rfl, Or.inr rfl, Or.inl rfl, trivial⟩ ?_
        exact h
set_option maxRecDepth 20000 in
theorem e_Mod_faultOfText_199 {d : Nat} {σ : PH} {K : PO → PH → Prop} (x0 : Nat) (x4 : Int32) (h : PW (d + 1) M_Mod_faultOfText 200 [.ref x0, uu, uu, uu, .int x4] [.int 0] σ K) : PW (d + 1) M_Mod_faultOfText 199 [.ref x0, uu, uu, uu, .int x4] [] σ K := by
  refine pw_iconst (v := 0) dc_Mod_faultOfText_199 (by decide) ?_
  exact h
set_option maxRecDepth 20000 in
theorem e_Mod_faultOfText_200 {d : Nat} {σ : PH} {K : PO → PH → Prop} (x0 : Nat) (x4 : Int32) (y0 : Int32) (h : PW (d + 1) M_Mod_faultOfText 173 [.ref x0, uu, uu, .int y0, .int (x4 + 1)] [] σ K) : PW (d + 1) M_Mod_faultOfText 200 [.ref x0, uu, uu, uu, .int x4] [.int y0] σ K := by
  refine pw_istore_n dc_Mod_faultOfText_200 (by decide) ?_
  refine pw_iincv (v := 1) dc_Mod_faultOfText_201 (by decide) rfl (by decide) ?_
  refine pw_goto (tgt := 173) dc_Mod_faultOfText_204 (by decide) ?_
  exact h
theorem dc_Mod_missingAt_0 : decode M_Mod_missingAt.2.1 0 = .ok (.iconst (-1), 1) := by decide +kernel
theorem dc_Mod_missingAt_1 : decode M_Mod_missingAt.2.1 1 = .ok (.istore_n 3, 1) := by decide +kernel
theorem dc_Mod_missingAt_2 : decode M_Mod_missingAt.2.1 2 = .ok (.iconst 0, 1) := by decide +kernel
theorem dc_Mod_missingAt_3 : decode M_Mod_missingAt.2.1 3 = .ok (.istore 4, 2) := by decide +kernel
theorem dc_Mod_missingAt_5 : decode M_Mod_missingAt.2.1 5 = .ok (.iload 4, 2) := by decide +kernel
theorem dc_Mod_missingAt_7 : decode M_Mod_missingAt.2.1 7 = .ok (.aload_n 0, 1) := by decide +kernel
theorem dc_Mod_missingAt_8 : decode M_Mod_missingAt.2.1 8 = .ok (.getfield 28, 3) := by decide +kernel
theorem dc_Mod_missingAt_11 : decode M_Mod_missingAt.2.1 11 = .ok (.iload_n 1, 1) := by decide +kernel
theorem dc_Mod_missingAt_12 : decode M_Mod_missingAt.2.1 12 = .ok (.iaload, 1) := by decide +kernel
theorem dc_Mod_missingAt_13 : decode M_Mod_missingAt.2.1 13 = .ok (.if_icmp .ge 32, 3) := by decide +kernel
theorem dc_Mod_missingAt_16 : decode M_Mod_missingAt.2.1 16 = .ok (.aload_n 0, 1) := by decide +kernel
theorem dc_Mod_missingAt_17 : decode M_Mod_missingAt.2.1 17 = .ok (.getfield 31, 3) := by decide +kernel
theorem dc_Mod_missingAt_20 : decode M_Mod_missingAt.2.1 20 = .ok (.bipush 40, 2) := by decide +kernel
theorem dc_Mod_missingAt_22 : decode M_Mod_missingAt.2.1 22 = .ok (.iload_n 1, 1) := by decide +kernel
theorem dc_Mod_missingAt_23 : decode M_Mod_missingAt.2.1 23 = .ok (.imul, 1) := by decide +kernel
theorem dc_Mod_missingAt_24 : decode M_Mod_missingAt.2.1 24 = .ok (.iload 4, 2) := by decide +kernel
theorem dc_Mod_missingAt_26 : decode M_Mod_missingAt.2.1 26 = .ok (.iadd, 1) := by decide +kernel
theorem dc_Mod_missingAt_27 : decode M_Mod_missingAt.2.1 27 = .ok (.iaload, 1) := by decide +kernel
theorem dc_Mod_missingAt_28 : decode M_Mod_missingAt.2.1 28 = .ok (.iload_n 2, 1) := by decide +kernel
theorem dc_Mod_missingAt_29 : decode M_Mod_missingAt.2.1 29 = .ok (.if_icmp .ne 8, 3) := by decide +kernel
theorem dc_Mod_missingAt_32 : decode M_Mod_missingAt.2.1 32 = .ok (.iload 4, 2) := by decide +kernel
theorem dc_Mod_missingAt_34 : decode M_Mod_missingAt.2.1 34 = .ok (.goto 4, 3) := by decide +kernel
theorem dc_Mod_missingAt_37 : decode M_Mod_missingAt.2.1 37 = .ok (.iload_n 3, 1) := by decide +kernel
theorem dc_Mod_missingAt_38 : decode M_Mod_missingAt.2.1 38 = .ok (.istore_n 3, 1) := by decide +kernel
theorem dc_Mod_missingAt_39 : decode M_Mod_missingAt.2.1 39 = .ok (.iinc 4 1, 3) := by decide +kernel
theorem dc_Mod_missingAt_42 : decode M_Mod_missingAt.2.1 42 = .ok (.goto (-37), 3) := by decide +kernel
theorem dc_Mod_missingAt_45 : decode M_Mod_missingAt.2.1 45 = .ok (.iload_n 3, 1) := by decide +kernel
theorem dc_Mod_missingAt_46 : decode M_Mod_missingAt.2.1 46 = .ok (.ireturn, 1) := by decide +kernel
set_option maxRecDepth 20000 in
theorem e_Mod_missingAt_0 {d : Nat} {σ : PH} {K : PO → PH → Prop} (x0 : Nat) (x1 : Int32) (x2 : Int32) (h : PW d M_Mod_missingAt 5 [.ref x0, .int x1, .int x2, .int ((-1)), .int 0] [] σ K) : PW d M_Mod_missingAt 0 [.ref x0, .int x1, .int x2, uu, uu] [] σ K := by
  refine pw_iconst (v := (-1)) dc_Mod_missingAt_0 (by decide) ?_
  refine pw_istore_n dc_Mod_missingAt_1 (by decide) ?_
  refine pw_iconst (v := 0) dc_Mod_missingAt_2 (by decide) ?_
  refine pw_istore dc_Mod_missingAt_3 (by decide) ?_
  exact h
set_option maxRecDepth 20000 in
theorem e_Mod_missingAt_5 {d : Nat} {σ : PH} {K : PO → PH → Prop} (x0 : Nat) (x1 : Int32) (x2 : Int32) (x3 : Int32) (x4 : Int32) (h : sh σ x0 = (1, 11) ∧ (∃ b1 : Nat, gR σ 710 x0 = some b1 ∧ (∃ n1 : Nat, sh σ b1 = (2, n1) ∧ vp_in x1 n1 ∧ (if (eI σ b1 (ix x1)) ≤ x4 then K (.inl (some (.int x3))) σ else (∃ b2 : Nat, gR σ 711 x0 = some b2 ∧ (∃ n2 : Nat, sh σ b2 = (2, n2) ∧ vp_in ((40 * x1) + x4) n2 ∧ (if (eI σ b2 (ix ((40 * x1) + x4))) = x2 then PW d M_Mod_missingAt 38 [.ref x0, .int x1, .int x2, uu, .int x4] [.int x4] σ K else PW d M_Mod_missingAt 38 [.ref x0, .int x1, .int x2, uu, .int x4] [.int x3] σ K))))))) : PW d M_Mod_missingAt 5 [.ref x0, .int x1, .int x2, .int x3, .int x4] [] σ K := by
  refine pw_iload dc_Mod_missingAt_5 rfl ?_
  refine pw_aload_n dc_Mod_missingAt_7 rfl rfl ?_
  obtain ⟨hs1, h⟩ := h
  refine pw_getR (c := 11) (k := 6) (f := 710) dc_Mod_missingAt_8 fl_Mod_28 rfl rfl hs1 ?_
  obtain ⟨b1, hb1, h⟩ := h
  refine PW.top (v' := .ref b1) (congrArg va_rf hb1) ?_
  refine pw_iload_n dc_Mod_missingAt_11 rfl ?_
  obtain ⟨n1, hs2, h⟩ := h
  obtain ⟨hi1, h⟩ := h
  refine pw_iald dc_Mod_missingAt_12 hs2 hi1 ?_
  refine pw_icmp_ge (tgt := 45) dc_Mod_missingAt_13 (by decide) (fun hc => ?_) (fun hc => ?_)
  · have h := ite_t h hc
    refine pw_iload_n dc_Mod_missingAt_45 rfl ?_
    exact pw_iret dc_Mod_missingAt_46 rfl rfl h
  · have h := ite_f h hc
    refine pw_aload_n dc_Mod_missingAt_16 rfl rfl ?_
    refine pw_getR (c := 11) (k := 7) (f := 711) dc_Mod_missingAt_17 fl_Mod_31 rfl rfl hs1 ?_
    obtain ⟨b2, hb2, h⟩ := h
    refine PW.top (v' := .ref b2) (congrArg va_rf hb2) ?_
    refine pw_bipush (v := 40) dc_Mod_missingAt_20 (by decide) ?_
    refine pw_iload_n dc_Mod_missingAt_22 rfl ?_
    refine pw_imul dc_Mod_missingAt_23 ?_
    refine pw_iload dc_Mod_missingAt_24 rfl ?_
    refine pw_iadd dc_Mod_missingAt_26 ?_
    obtain ⟨n2, hs3, h⟩ := h
    obtain ⟨hi2, h⟩ := h
    refine pw_iald dc_Mod_missingAt_27 hs3 hi2 ?_
    refine pw_iload_n dc_Mod_missingAt_28 rfl ?_
    refine pw_icmp_ne (tgt := 37) dc_Mod_missingAt_29 (by decide) (fun hc => ?_) (fun hc => ?_)
    · have h := ite_f h hc
      refine pw_iload_n dc_Mod_missingAt_37 rfl ?_
      refine PW.drop (ls' := [.ref x0, .int x1, .int x2, uu, .int x4]) ⟨Or.inl rfl, Or.inl rfl, Or.inl rfl, Or.inr rfl, Or.inl rfl, trivial⟩ ?_
      exact h
    · have h := ite_t h hc
      refine pw_iload dc_Mod_missingAt_32 rfl ?_
      refine pw_goto (tgt := 38) dc_Mod_missingAt_34 (by decide) ?_
      refine PW.drop (ls' := [.ref x0, .int x1, .int x2, uu, .int x4]) ⟨Or.inl rfl, Or.inl rfl, Or.inl rfl, Or.inr rfl, Or.inl rfl, trivial⟩ ?_
      exact h
set_option maxRecDepth 20000 in
theorem e_Mod_missingAt_38 {d : Nat} {σ : PH} {K : PO → PH → Prop} (x0 : Nat) (x1 : Int32) (x2 : Int32) (x4 : Int32) (y0 : Int32) (h : PW d M_Mod_missingAt 5 [.ref x0, .int x1, .int x2, .int y0, .int (x4 + 1)] [] σ K) : PW d M_Mod_missingAt 38 [.ref x0, .int x1, .int x2, uu, .int x4] [.int y0] σ K := by
  refine pw_istore_n dc_Mod_missingAt_38 (by decide) ?_
  refine pw_iincv (v := 1) dc_Mod_missingAt_39 (by decide) rfl (by decide) ?_
  refine pw_goto (tgt := 5) dc_Mod_missingAt_42 (by decide) ?_
  exact h
theorem dc_Mod_after_0 : decode M_Mod_after.2.1 0 = .ok (.iload_n 0, 1) := by decide +kernel
theorem dc_Mod_after_1 : decode M_Mod_after.2.1 1 = .ok (.sipush 999, 3) := by decide +kernel
theorem dc_Mod_after_4 : decode M_Mod_after.2.1 4 = .ok (.irem, 1) := by decide +kernel
theorem dc_Mod_after_5 : decode M_Mod_after.2.1 5 = .ok (.iconst 1, 1) := by decide +kernel
theorem dc_Mod_after_6 : decode M_Mod_after.2.1 6 = .ok (.iadd, 1) := by decide +kernel
theorem dc_Mod_after_7 : decode M_Mod_after.2.1 7 = .ok (.ireturn, 1) := by decide +kernel
set_option maxRecDepth 20000 in
theorem e_Mod_after_0 {d : Nat} {σ : PH} {K : PO → PH → Prop} (x0 : Int32) (h : K (.inl (some (.int ((x0 - x0 / 999 * 999) + 1)))) σ) : PW d M_Mod_after 0 [.int x0] [] σ K := by
  refine pw_iload_n dc_Mod_after_0 rfl ?_
  refine pw_sipush (v := 999) dc_Mod_after_1 (by decide) ?_
  refine pw_irem dc_Mod_after_4 (by decide) ?_
  refine pw_iconst (v := 1) dc_Mod_after_5 (by decide) ?_
  refine pw_iadd dc_Mod_after_6 ?_
  exact pw_iret dc_Mod_after_7 rfl rfl h
theorem dc_Mod_count3_0 : decode M_Mod_count3.2.1 0 = .ok (.iconst 1, 1) := by decide +kernel
theorem dc_Mod_count3_1 : decode M_Mod_count3.2.1 1 = .ok (.istore 4, 2) := by decide +kernel
theorem dc_Mod_count3_3 : decode M_Mod_count3.2.1 3 = .ok (.iload_n 3, 1) := by decide +kernel
theorem dc_Mod_count3_4 : decode M_Mod_count3.2.1 4 = .ok (.invokestatic 220, 3) := by decide +kernel
theorem dc_Mod_count3_7 : decode M_Mod_count3.2.1 7 = .ok (.istore 5, 2) := by decide +kernel
theorem dc_Mod_count3_9 : decode M_Mod_count3.2.1 9 = .ok (.iload 5, 2) := by decide +kernel
theorem dc_Mod_count3_11 : decode M_Mod_count3.2.1 11 = .ok (.iload_n 2, 1) := by decide +kernel
theorem dc_Mod_count3_12 : decode M_Mod_count3.2.1 12 = .ok (.if_icmp .eq 16, 3) := by decide +kernel
theorem dc_Mod_count3_15 : decode M_Mod_count3.2.1 15 = .ok (.iload 5, 2) := by decide +kernel
theorem dc_Mod_count3_17 : decode M_Mod_count3.2.1 17 = .ok (.invokestatic 220, 3) := by decide +kernel
theorem dc_Mod_count3_20 : decode M_Mod_count3.2.1 20 = .ok (.istore 5, 2) := by decide +kernel
theorem dc_Mod_count3_22 : decode M_Mod_count3.2.1 22 = .ok (.iinc 4 1, 3) := by decide +kernel
theorem dc_Mod_count3_25 : decode M_Mod_count3.2.1 25 = .ok (.goto (-16), 3) := by decide +kernel
theorem dc_Mod_count3_28 : decode M_Mod_count3.2.1 28 = .ok (.iload 4, 2) := by decide +kernel
theorem dc_Mod_count3_30 : decode M_Mod_count3.2.1 30 = .ok (.ireturn, 1) := by decide +kernel
set_option maxRecDepth 20000 in
theorem e_Mod_count3_0 {d : Nat} {σ : PH} {K : PO → PH → Prop} (x0 : Nat) (x1 : Int32) (x2 : Int32) (x3 : Int32) (h : PW d M_Mod_after 0 [.int x3] [] σ (kI (fun r1 σ1 => PW (d + 1) M_Mod_count3 9 [uu, uu, .int x2, uu, .int 1, .int r1] [] σ1 K) K)) : PW (d + 1) M_Mod_count3 0 [.ref x0, .int x1, .int x2, .int x3, uu, uu] [] σ K := by
  refine pw_iconst (v := 1) dc_Mod_count3_0 (by decide) ?_
  refine pw_istore dc_Mod_count3_1 (by decide) ?_
  refine pw_iload_n dc_Mod_count3_3 rfl ?_
  refine pw_callS (vs := [.int x3]) (st := []) dc_Mod_count3_4 cq_Mod_after (List.mem_of_getElem? (i := 1200) (by decide +kernel)) (List.mem_of_getElem? (i := 1199) (by decide +kernel)) rfl rfl (cat_cons rfl (cat_nil)) (Nat.le_of_ble_eq_true rfl) (PW.mono (kI_kN (fun r1 σ1 h => ?_)) h)
  refine pw_istore dc_Mod_count3_7 (by decide) ?_
  refine PW.drop (ls' := [uu, uu, .int x2, uu, .int 1, .int r1]) ⟨Or.inr rfl, Or.inr rfl, Or.inl rfl, Or.inr rfl, Or.inl rfl, Or.inl rfl, trivial⟩ ?_
  exact h
set_option maxRecDepth 20000 in
theorem e_Mod_count3_9 {d : Nat} {σ : PH} {K : PO → PH → Prop} (x2 : Int32) (x4 : Int32) (x5 : Int32) (h : (if x5 = x2 then K (.inl (some (.int x4))) σ else PW d M_Mod_after 0 [.int x5] [] σ (kI (fun r1 σ1 => PW (d + 1) M_Mod_count3 9 [uu, uu, .int x2, uu, .int (x4 + 1), .int r1] [] σ1 K) K))) : PW (d + 1) M_Mod_count3 9 [uu, uu, .int x2, uu, .int x4, .int x5] [] σ K := by
  refine pw_iload dc_Mod_count3_9 rfl ?_
  refine pw_iload_n dc_Mod_count3_11 rfl ?_
  refine pw_icmp_eq (tgt := 28) dc_Mod_count3_12 (by decide) (fun hc => ?_) (fun hc => ?_)
  · have h := ite_t h hc
    refine pw_iload dc_Mod_count3_28 rfl ?_
    exact pw_iret dc_Mod_count3_30 rfl rfl h
  · have h := ite_f h hc
    refine pw_iload dc_Mod_count3_15 rfl ?_
    refine pw_callS (vs := [.int x5]) (st := []) dc_Mod_count3_17 cq_Mod_after (List.mem_of_getElem? (i := 1200) (by decide +kernel)) (List.mem_of_getElem? (i := 1199) (by decide +kernel)) rfl rfl (cat_cons rfl (cat_nil)) (Nat.le_of_ble_eq_true rfl) (PW.mono (kI_kN (fun r1 σ1 h => ?_)) h)
    refine pw_istore dc_Mod_count3_20 (by decide) ?_
    refine pw_iincv (v := 1) dc_Mod_count3_22 (by decide) rfl (by decide) ?_
    refine pw_goto (tgt := 9) dc_Mod_count3_25 (by decide) ?_
    exact h
theorem dc_Mod_isDue_0 : decode M_Mod_isDue.2.1 0 = .ok (.aload_n 0, 1) := by decide +kernel
theorem dc_Mod_isDue_1 : decode M_Mod_isDue.2.1 1 = .ok (.iload_n 1, 1) := by decide +kernel
theorem dc_Mod_isDue_2 : decode M_Mod_isDue.2.1 2 = .ok (.iload_n 2, 1) := by decide +kernel
theorem dc_Mod_isDue_3 : decode M_Mod_isDue.2.1 3 = .ok (.aload_n 0, 1) := by decide +kernel
theorem dc_Mod_isDue_4 : decode M_Mod_isDue.2.1 4 = .ok (.getfield 25, 3) := by decide +kernel
theorem dc_Mod_isDue_7 : decode M_Mod_isDue.2.1 7 = .ok (.iload_n 1, 1) := by decide +kernel
theorem dc_Mod_isDue_8 : decode M_Mod_isDue.2.1 8 = .ok (.iaload, 1) := by decide +kernel
theorem dc_Mod_isDue_9 : decode M_Mod_isDue.2.1 9 = .ok (.invokevirtual 223, 3) := by decide +kernel
theorem dc_Mod_isDue_12 : decode M_Mod_isDue.2.1 12 = .ok (.istore_n 3, 1) := by decide +kernel
theorem dc_Mod_isDue_13 : decode M_Mod_isDue.2.1 13 = .ok (.iload_n 3, 1) := by decide +kernel
theorem dc_Mod_isDue_14 : decode M_Mod_isDue.2.1 14 = .ok (.bipush 20, 2) := by decide +kernel
theorem dc_Mod_isDue_16 : decode M_Mod_isDue.2.1 16 = .ok (.if_icmp .gt 22, 3) := by decide +kernel
theorem dc_Mod_isDue_19 : decode M_Mod_isDue.2.1 19 = .ok (.aload_n 0, 1) := by decide +kernel
theorem dc_Mod_isDue_20 : decode M_Mod_isDue.2.1 20 = .ok (.getfield 28, 3) := by decide +kernel
theorem dc_Mod_isDue_23 : decode M_Mod_isDue.2.1 23 = .ok (.iload_n 1, 1) := by decide +kernel
theorem dc_Mod_isDue_24 : decode M_Mod_isDue.2.1 24 = .ok (.iaload, 1) := by decide +kernel
theorem dc_Mod_isDue_25 : decode M_Mod_isDue.2.1 25 = .ok (.iload_n 3, 1) := by decide +kernel
theorem dc_Mod_isDue_26 : decode M_Mod_isDue.2.1 26 = .ok (.iadd, 1) := by decide +kernel
theorem dc_Mod_isDue_27 : decode M_Mod_isDue.2.1 27 = .ok (.iconst 1, 1) := by decide +kernel
theorem dc_Mod_isDue_28 : decode M_Mod_isDue.2.1 28 = .ok (.isub, 1) := by decide +kernel
theorem dc_Mod_isDue_29 : decode M_Mod_isDue.2.1 29 = .ok (.bipush 30, 2) := by decide +kernel
theorem dc_Mod_isDue_31 : decode M_Mod_isDue.2.1 31 = .ok (.if_icmp .gt 7, 3) := by decide +kernel
theorem dc_Mod_isDue_34 : decode M_Mod_isDue.2.1 34 = .ok (.iconst 1, 1) := by decide +kernel
theorem dc_Mod_isDue_35 : decode M_Mod_isDue.2.1 35 = .ok (.goto 4, 3) := by decide +kernel
theorem dc_Mod_isDue_38 : decode M_Mod_isDue.2.1 38 = .ok (.iconst 0, 1) := by decide +kernel
theorem dc_Mod_isDue_39 : decode M_Mod_isDue.2.1 39 = .ok (.ireturn, 1) := by decide +kernel
set_option maxRecDepth 20000 in
theorem e_Mod_isDue_0 {d : Nat} {σ : PH} {K : PO → PH → Prop} (x0 : Nat) (x1 : Int32) (x2 : Int32) (h : sh σ x0 = (1, 11) ∧ (∃ b1 : Nat, gR σ 709 x0 = some b1 ∧ (∃ n1 : Nat, sh σ b1 = (2, n1) ∧ vp_in x1 n1 ∧ PW d M_Mod_count3 0 [.ref x0, .int x1, .int x2, .int (eI σ b1 (ix x1)), uu, uu] [] σ (kI (fun r1 σ1 => (if 20 < r1 then K (.inl (some (.int 0))) σ1 else sh σ1 x0 = (1, 11) ∧ (∃ b2 : Nat, gR σ1 710 x0 = some b2 ∧ (∃ n2 : Nat, sh σ1 b2 = (2, n2) ∧ vp_in x1 n2 ∧ (if 30 < (((eI σ1 b2 (ix x1)) + r1) - 1) then K (.inl (some (.int 0))) σ1 else K (.inl (some (.int 1))) σ1))))) K)))) : PW (d + 1) M_Mod_isDue 0 [.ref x0, .int x1, .int x2, uu] [] σ K := by
  refine pw_aload_n dc_Mod_isDue_0 rfl rfl ?_
  refine pw_iload_n dc_Mod_isDue_1 rfl ?_
  refine pw_iload_n dc_Mod_isDue_2 rfl ?_
  refine pw_aload_n dc_Mod_isDue_3 rfl rfl ?_
  obtain ⟨hs1, h⟩ := h
  refine pw_getR (c := 11) (k := 5) (f := 709) dc_Mod_isDue_4 fl_Mod_25 rfl rfl hs1 ?_
  obtain ⟨b1, hb1, h⟩ := h
  refine PW.top (v' := .ref b1) (congrArg va_rf hb1) ?_
  refine pw_iload_n dc_Mod_isDue_7 rfl ?_
  obtain ⟨n1, hs2, h⟩ := h
  obtain ⟨hi1, h⟩ := h
  refine pw_iald dc_Mod_isDue_8 hs2 hi1 ?_
  refine pw_callV (vs := [.int x1, .int x2, .int (eI σ b1 (ix x1))]) (st := []) (b := x0) (cn := 11) dc_Mod_isDue_9 cq_Mod_count3 (List.mem_of_getElem? (i := 1197) (by decide +kernel)) (List.mem_of_getElem? (i := 39) (by decide +kernel)) (List.mem_of_getElem? (i := 1195) (by decide +kernel)) rfl hs1 rfl rfl (by decide) (cat_cons rfl (cat_cons rfl (cat_cons rfl (cat_nil)))) (Nat.le_of_ble_eq_true rfl) (PW.mono (kI_kN (fun r1 σ1 h => ?_)) h)
  refine pw_istore_n dc_Mod_isDue_12 (by decide) ?_
  refine pw_iload_n dc_Mod_isDue_13 rfl ?_
  refine pw_bipush (v := 20) dc_Mod_isDue_14 (by decide) ?_
  refine pw_icmp_gt (tgt := 38) dc_Mod_isDue_16 (by decide) (fun hc => ?_) (fun hc => ?_)
  · have h := ite_t h hc
    refine pw_iconst (v := 0) dc_Mod_isDue_38 (by decide) ?_
    exact pw_iret dc_Mod_isDue_39 rfl (bo_nar (Or.inl rfl)) h
  · have h := ite_f h hc
    refine pw_aload_n dc_Mod_isDue_19 rfl rfl ?_
    obtain ⟨hs3, h⟩ := h
    refine pw_getR (c := 11) (k := 6) (f := 710) dc_Mod_isDue_20 fl_Mod_28 rfl rfl hs3 ?_
    obtain ⟨b2, hb2, h⟩ := h
    refine PW.top (v' := .ref b2) (congrArg va_rf hb2) ?_
    refine pw_iload_n dc_Mod_isDue_23 rfl ?_
    obtain ⟨n2, hs4, h⟩ := h
    obtain ⟨hi2, h⟩ := h
    refine pw_iald dc_Mod_isDue_24 hs4 hi2 ?_
    refine pw_iload_n dc_Mod_isDue_25 rfl ?_
    refine pw_iadd dc_Mod_isDue_26 ?_
    refine pw_iconst (v := 1) dc_Mod_isDue_27 (by decide) ?_
    refine pw_isub dc_Mod_isDue_28 ?_
    refine pw_bipush (v := 30) dc_Mod_isDue_29 (by decide) ?_
    refine pw_icmp_gt (tgt := 38) dc_Mod_isDue_31 (by decide) (fun hc => ?_) (fun hc => ?_)
    · have h := ite_t h hc
      refine pw_iconst (v := 0) dc_Mod_isDue_38 (by decide) ?_
      exact pw_iret dc_Mod_isDue_39 rfl (bo_nar (Or.inl rfl)) h
    · have h := ite_f h hc
      refine pw_iconst (v := 1) dc_Mod_isDue_34 (by decide) ?_
      refine pw_goto (tgt := 39) dc_Mod_isDue_35 (by decide) ?_
      exact pw_iret dc_Mod_isDue_39 rfl (bo_nar (Or.inr rfl)) h
