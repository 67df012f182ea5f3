theorem dc_Mod_take_0 : decode M_Mod_take.2.1 0 = .ok (.aload_n 0, 1) := by decide +kernel
theorem dc_Mod_take_1 : decode M_Mod_take.2.1 1 = .ok (.iload_n 1, 1) := by decide +kernel
theorem dc_Mod_take_2 : decode M_Mod_take.2.1 2 = .ok (.iload_n 2, 1) := by decide +kernel
theorem dc_Mod_take_3 : decode M_Mod_take.2.1 3 = .ok (.invokevirtual 227, 3) := by decide +kernel
theorem dc_Mod_take_6 : decode M_Mod_take.2.1 6 = .ok (.ifCond .eq 61, 3) := by decide +kernel
theorem dc_Mod_take_9 : decode M_Mod_take.2.1 9 = .ok (.aload_n 0, 1) := by decide +kernel
theorem dc_Mod_take_10 : decode M_Mod_take.2.1 10 = .ok (.getfield 25, 3) := by decide +kernel
theorem dc_Mod_take_13 : decode M_Mod_take.2.1 13 = .ok (.iload_n 1, 1) := by decide +kernel
theorem dc_Mod_take_14 : decode M_Mod_take.2.1 14 = .ok (.iaload, 1) := by decide +kernel
theorem dc_Mod_take_15 : decode M_Mod_take.2.1 15 = .ok (.invokestatic 220, 3) := by decide +kernel
theorem dc_Mod_take_18 : decode M_Mod_take.2.1 18 = .ok (.istore_n 3, 1) := by decide +kernel
theorem dc_Mod_take_19 : decode M_Mod_take.2.1 19 = .ok (.iload_n 3, 1) := by decide +kernel
theorem dc_Mod_take_20 : decode M_Mod_take.2.1 20 = .ok (.iload_n 2, 1) := by decide +kernel
theorem dc_Mod_take_21 : decode M_Mod_take.2.1 21 = .ok (.if_icmp .eq 38, 3) := by decide +kernel
theorem dc_Mod_take_24 : decode M_Mod_take.2.1 24 = .ok (.aload_n 0, 1) := by decide +kernel
theorem dc_Mod_take_25 : decode M_Mod_take.2.1 25 = .ok (.getfield 31, 3) := by decide +kernel
theorem dc_Mod_take_28 : decode M_Mod_take.2.1 28 = .ok (.bipush 40, 2) := by decide +kernel
theorem dc_Mod_take_30 : decode M_Mod_take.2.1 30 = .ok (.iload_n 1, 1) := by decide +kernel
theorem dc_Mod_take_31 : decode M_Mod_take.2.1 31 = .ok (.imul, 1) := by decide +kernel
theorem dc_Mod_take_32 : decode M_Mod_take.2.1 32 = .ok (.aload_n 0, 1) := by decide +kernel
theorem dc_Mod_take_33 : decode M_Mod_take.2.1 33 = .ok (.getfield 28, 3) := by decide +kernel
theorem dc_Mod_take_36 : decode M_Mod_take.2.1 36 = .ok (.iload_n 1, 1) := by decide +kernel
theorem dc_Mod_take_37 : decode M_Mod_take.2.1 37 = .ok (.iaload, 1) := by decide +kernel
theorem dc_Mod_take_38 : decode M_Mod_take.2.1 38 = .ok (.iadd, 1) := by decide +kernel
theorem dc_Mod_take_39 : decode M_Mod_take.2.1 39 = .ok (.iload_n 3, 1) := by decide +kernel
theorem dc_Mod_take_40 : decode M_Mod_take.2.1 40 = .ok (.iastore, 1) := by decide +kernel
theorem dc_Mod_take_41 : decode M_Mod_take.2.1 41 = .ok (.aload_n 0, 1) := by decide +kernel
theorem dc_Mod_take_42 : decode M_Mod_take.2.1 42 = .ok (.getfield 28, 3) := by decide +kernel
theorem dc_Mod_take_45 : decode M_Mod_take.2.1 45 = .ok (.iload_n 1, 1) := by decide +kernel
theorem dc_Mod_take_46 : decode M_Mod_take.2.1 46 = .ok (.dup2, 1) := by decide +kernel
theorem dc_Mod_take_47 : decode M_Mod_take.2.1 47 = .ok (.iaload, 1) := by decide +kernel
theorem dc_Mod_take_48 : decode M_Mod_take.2.1 48 = .ok (.iconst 1, 1) := by decide +kernel
theorem dc_Mod_take_49 : decode M_Mod_take.2.1 49 = .ok (.iadd, 1) := by decide +kernel
theorem dc_Mod_take_50 : decode M_Mod_take.2.1 50 = .ok (.iastore, 1) := by decide +kernel
theorem dc_Mod_take_51 : decode M_Mod_take.2.1 51 = .ok (.iload_n 3, 1) := by decide +kernel
theorem dc_Mod_take_52 : decode M_Mod_take.2.1 52 = .ok (.invokestatic 220, 3) := by decide +kernel
theorem dc_Mod_take_55 : decode M_Mod_take.2.1 55 = .ok (.istore_n 3, 1) := by decide +kernel
theorem dc_Mod_take_56 : decode M_Mod_take.2.1 56 = .ok (.goto (-37), 3) := by decide +kernel
theorem dc_Mod_take_59 : decode M_Mod_take.2.1 59 = .ok (.aload_n 0, 1) := by decide +kernel
theorem dc_Mod_take_60 : decode M_Mod_take.2.1 60 = .ok (.getfield 25, 3) := by decide +kernel
theorem dc_Mod_take_63 : decode M_Mod_take.2.1 63 = .ok (.iload_n 1, 1) := by decide +kernel
theorem dc_Mod_take_64 : decode M_Mod_take.2.1 64 = .ok (.iload_n 2, 1) := by decide +kernel
theorem dc_Mod_take_65 : decode M_Mod_take.2.1 65 = .ok (.iastore, 1) := by decide +kernel
theorem dc_Mod_take_66 : decode M_Mod_take.2.1 66 = .ok (.return_, 1) := by decide +kernel
theorem dc_Mod_take_67 : decode M_Mod_take.2.1 67 = .ok (.aload_n 0, 1) := by decide +kernel
theorem dc_Mod_take_68 : decode M_Mod_take.2.1 68 = .ok (.getfield 28, 3) := by decide +kernel
theorem dc_Mod_take_71 : decode M_Mod_take.2.1 71 = .ok (.iload_n 1, 1) := by decide +kernel
theorem dc_Mod_take_72 : decode M_Mod_take.2.1 72 = .ok (.dup2, 1) := by decide +kernel
theorem dc_Mod_take_73 : decode M_Mod_take.2.1 73 = .ok (.iaload, 1) := by decide +kernel
theorem dc_Mod_take_74 : decode M_Mod_take.2.1 74 = .ok (.iconst 1, 1) := by decide +kernel
theorem dc_Mod_take_75 : decode M_Mod_take.2.1 75 = .ok (.isub, 1) := by decide +kernel
theorem dc_Mod_take_76 : decode M_Mod_take.2.1 76 = .ok (.iastore, 1) := by decide +kernel
theorem dc_Mod_take_77 : decode M_Mod_take.2.1 77 = .ok (.aload_n 0, 1) := by decide +kernel
theorem dc_Mod_take_78 : decode M_Mod_take.2.1 78 = .ok (.iload_n 1, 1) := by decide +kernel
theorem dc_Mod_take_79 : decode M_Mod_take.2.1 79 = .ok (.iload_n 2, 1) := by decide +kernel
theorem dc_Mod_take_80 : decode M_Mod_take.2.1 80 = .ok (.invokevirtual 231, 3) := by decide +kernel
theorem dc_Mod_take_83 : decode M_Mod_take.2.1 83 = .ok (.istore_n 3, 1) := by decide +kernel
theorem dc_Mod_take_84 : decode M_Mod_take.2.1 84 = .ok (.iload_n 3, 1) := by decide +kernel
theorem dc_Mod_take_85 : decode M_Mod_take.2.1 85 = .ok (.aload_n 0, 1) := by decide +kernel
theorem dc_Mod_take_86 : decode M_Mod_take.2.1 86 = .ok (.getfield 28, 3) := by decide +kernel
theorem dc_Mod_take_89 : decode M_Mod_take.2.1 89 = .ok (.iload_n 1, 1) := by decide +kernel
theorem dc_Mod_take_90 : decode M_Mod_take.2.1 90 = .ok (.iaload, 1) := by decide +kernel
theorem dc_Mod_take_91 : decode M_Mod_take.2.1 91 = .ok (.if_icmp .ge 33, 3) := by decide +kernel
theorem dc_Mod_take_94 : decode M_Mod_take.2.1 94 = .ok (.aload_n 0, 1) := by decide +kernel
theorem dc_Mod_take_95 : decode M_Mod_take.2.1 95 = .ok (.getfield 31, 3) := by decide +kernel
theorem dc_Mod_take_98 : decode M_Mod_take.2.1 98 = .ok (.bipush 40, 2) := by decide +kernel
theorem dc_Mod_take_100 : decode M_Mod_take.2.1 100 = .ok (.iload_n 1, 1) := by decide +kernel
theorem dc_Mod_take_101 : decode M_Mod_take.2.1 101 = .ok (.imul, 1) := by decide +kernel
theorem dc_Mod_take_102 : decode M_Mod_take.2.1 102 = .ok (.iload_n 3, 1) := by decide +kernel
theorem dc_Mod_take_103 : decode M_Mod_take.2.1 103 = .ok (.iadd, 1) := by decide +kernel
theorem dc_Mod_take_104 : decode M_Mod_take.2.1 104 = .ok (.aload_n 0, 1) := by decide +kernel
theorem dc_Mod_take_105 : decode M_Mod_take.2.1 105 = .ok (.getfield 31, 3) := by decide +kernel
theorem dc_Mod_take_108 : decode M_Mod_take.2.1 108 = .ok (.bipush 40, 2) := by decide +kernel
theorem dc_Mod_take_110 : decode M_Mod_take.2.1 110 = .ok (.iload_n 1, 1) := by decide +kernel
theorem dc_Mod_take_111 : decode M_Mod_take.2.1 111 = .ok (.imul, 1) := by decide +kernel
theorem dc_Mod_take_112 : decode M_Mod_take.2.1 112 = .ok (.iload_n 3, 1) := by decide +kernel
theorem dc_Mod_take_113 : decode M_Mod_take.2.1 113 = .ok (.iadd, 1) := by decide +kernel
theorem dc_Mod_take_114 : decode M_Mod_take.2.1 114 = .ok (.iconst 1, 1) := by decide +kernel
theorem dc_Mod_take_115 : decode M_Mod_take.2.1 115 = .ok (.iadd, 1) := by decide +kernel
theorem dc_Mod_take_116 : decode M_Mod_take.2.1 116 = .ok (.iaload, 1) := by decide +kernel
theorem dc_Mod_take_117 : decode M_Mod_take.2.1 117 = .ok (.iastore, 1) := by decide +kernel
theorem dc_Mod_take_118 : decode M_Mod_take.2.1 118 = .ok (.iinc 3 1, 3) := by decide +kernel
theorem dc_Mod_take_121 : decode M_Mod_take.2.1 121 = .ok (.goto (-37), 3) := by decide +kernel
theorem dc_Mod_take_124 : decode M_Mod_take.2.1 124 = .ok (.return_, 1) := by decide +kernel
set_option maxRecDepth 20000 in
theorem e_Mod_take_0 {d : Nat} {σ : PH} {K : PO → PH → Prop} (x0 : Nat) (x1 : Int32) (x2 : Int32) (h : sh σ x0 = (1, 11) ∧ PW d M_Mod_isDue 0 [.ref x0, .int x1, .int x2, uu] [] σ (kI (fun r1 σ1 => (if r1 = 0 then sh σ1 x0 = (1, 11) ∧ (∃ b1 : Nat, gR σ1 710 x0 = some b1 ∧ (∃ n1 : Nat, sh σ1 b1 = (2, n1) ∧ vp_in x1 n1 ∧ vp_in x1 n1 ∧ (∀ σ2 : PH, σ2 = uI σ1 b1 (ix x1) ((eI σ1 b1 (ix x1)) - 1) → sh σ2 x0 = (1, 11) ∧ PW d M_Mod_missingAt2 0 [.ref x0, .int x1, .int x2, uu] [] σ2 (kI (fun r2 σ3 => PW (d + 1) M_Mod_take 84 [.ref x0, .int x1, uu, .int r2] [] σ3 K) K)))) else sh σ1 x0 = (1, 11) ∧ (∃ b2 : Nat, gR σ1 709 x0 = some b2 ∧ (∃ n2 : Nat, sh σ1 b2 = (2, n2) ∧ vp_in x1 n2 ∧ PW d M_Mod_after 0 [.int (eI σ1 b2 (ix x1))] [] σ1 (kI (fun r3 σ4 => PW (d + 1) M_Mod_take 19 [.ref x0, .int x1, .int x2, .int r3] [] σ4 K) K))))) K)) : PW (d + 1) M_Mod_take 0 [.ref x0, .int x1, .int x2, uu] [] σ K := by
  refine pw_aload_n dc_Mod_take_0 rfl rfl ?_
  refine pw_iload_n dc_Mod_take_1 rfl ?_
  refine pw_iload_n dc_Mod_take_2 rfl ?_
  obtain ⟨hs1, h⟩ := h
  refine pw_callV (vs := [.int x1, .int x2]) (st := []) (b := x0) (cn := 11) dc_Mod_take_3 cq_Mod_isDue (List.mem_of_getElem? (i := 1193) (by decide +kernel)) (List.mem_of_getElem? (i := 38) (by decide +kernel)) (List.mem_of_getElem? (i := 1191) (by decide +kernel)) rfl hs1 rfl rfl (by decide) (cat_cons rfl (cat_cons rfl (cat_nil))) (Nat.le_of_ble_eq_true rfl) (PW.mono (kI_kN (fun r1 σ1 h => ?_)) h)
  refine pw_if_eq (tgt := 67) dc_Mod_take_6 (by decide) (fun hc => ?_) (fun hc => ?_)
  · have h := ite_t h hc
    refine pw_aload_n dc_Mod_take_67 rfl rfl ?_
    obtain ⟨hs2, h⟩ := h
    refine pw_getR (c := 11) (k := 6) (f := 710) dc_Mod_take_68 fl_Mod_28 rfl rfl hs2 ?_
    obtain ⟨b1, hb1, h⟩ := h
    refine PW.top (v' := .ref b1) (congrArg va_rf hb1) ?_
    refine pw_iload_n dc_Mod_take_71 rfl ?_
    refine pw_dup2 dc_Mod_take_72 rfl rfl ?_
    obtain ⟨n1, hs3, h⟩ := h
    obtain ⟨hi1, h⟩ := h
    refine pw_iald dc_Mod_take_73 hs3 hi1 ?_
    refine pw_iconst (v := 1) dc_Mod_take_74 (by decide) ?_
    refine pw_isub dc_Mod_take_75 ?_
    obtain ⟨hi2, h⟩ := h
    have h := h _ rfl
    refine pw_iast dc_Mod_take_76 hs3 hi2 ?_
    refine pw_aload_n dc_Mod_take_77 rfl rfl ?_
    refine pw_iload_n dc_Mod_take_78 rfl ?_
    refine pw_iload_n dc_Mod_take_79 rfl ?_
    obtain ⟨hs4, h⟩ := h
    refine pw_callV (vs := [.int x1, .int x2]) (st := []) (b := x0) (cn := 11) dc_Mod_take_80 cq_Mod_missingAt2 (List.mem_of_getElem? (i := 1212) (by decide +kernel)) (List.mem_of_getElem? (i := 42) (by decide +kernel)) (List.mem_of_getElem? (i := 1210) (by decide +kernel)) rfl hs4 rfl rfl (by decide) (cat_cons rfl (cat_cons rfl (cat_nil))) (Nat.le_of_ble_eq_true rfl) (PW.mono (kI_kN (fun r2 σ3 h => ?_)) h)
    refine pw_istore_n dc_Mod_take_83 (by decide) ?_
    refine PW.drop (ls' := [.ref x0, .int x1, uu, .int r2]) ⟨Or.inl rfl, Or.inl rfl, Or.inr rfl, Or.inl rfl, trivial⟩ ?_
    exact h
  · have h := ite_f h hc
    refine pw_aload_n dc_Mod_take_9 rfl rfl ?_
    obtain ⟨hs5, h⟩ := h
    refine pw_getR (c := 11) (k := 5) (f := 709) dc_Mod_take_10 fl_Mod_25 rfl rfl hs5 ?_
    obtain ⟨b2, hb2, h⟩ := h
    refine PW.top (v' := .ref b2) (congrArg va_rf hb2) ?_
    refine pw_iload_n dc_Mod_take_13 rfl ?_
    obtain ⟨n2, hs6, h⟩ := h
    obtain ⟨hi3, h⟩ := h
    refine pw_iald dc_Mod_take_14 hs6 hi3 ?_
    refine pw_callS (vs := [.int (eI σ1 b2 (ix x1))]) (st := []) dc_Mod_take_15 cq_Mod_after (List.mem_of_getElem? (i := 1200) (by decide +kernel)) (List.mem_of_getElem? (i := 1199) (by decide +kernel)) rfl rfl (cat_cons rfl (cat_nil)) (Nat.le_of_ble_eq_true rfl) (PW.mono (kI_kN (fun r3 σ4 h => ?_)) h)
    refine pw_istore_n dc_Mod_take_18 (by decide) ?_
    exact h
set_option maxRecDepth 20000 in
theorem e_Mod_take_19 {d : Nat} {σ : PH} {K : PO → PH → Prop} (x0 : Nat) (x1 : Int32) (x2 : Int32) (x3 : Int32) (h : (if x3 = x2 then sh σ x0 = (1, 11) ∧ (∃ b1 : Nat, gR σ 709 x0 = some b1 ∧ (∃ n1 : Nat, sh σ b1 = (2, n1) ∧ vp_in x1 n1 ∧ (∀ σ1 : PH, σ1 = uI σ b1 (ix x1) x2 → K (.inl none) σ1))) else sh σ x0 = (1, 11) ∧ (∃ b2 : Nat, gR σ 711 x0 = some b2 ∧ (∃ b3 : Nat, gR σ 710 x0 = some b3 ∧ (∃ n2 : Nat, sh σ b3 = (2, n2) ∧ vp_in x1 n2 ∧ (∃ n3 : Nat, sh σ b2 = (2, n3) ∧ vp_in ((40 * x1) + (eI σ b3 (ix x1))) n3 ∧ (∀ σ2 : PH, σ2 = uI σ b2 (ix ((40 * x1) + (eI σ b3 (ix x1)))) x3 → sh σ2 x0 = (1, 11) ∧ (∃ b4 : Nat, gR σ2 710 x0 = some b4 ∧ (∃ n4 : Nat, sh σ2 b4 = (2, n4) ∧ vp_in x1 n4 ∧ vp_in x1 n4 ∧ (∀ σ3 : PH, σ3 = uI σ2 b4 (ix x1) ((eI σ2 b4 (ix x1)) + 1) → PW d M_Mod_after 0 [.int x3] [] σ3 (kI (fun r1 σ4 => PW (d + 1) M_Mod_take 19 [.ref x0, .int x1, .int x2, .int r1] [] σ4 K) K))))))))))) : PW (d + 1) M_Mod_take 19 [.ref x0, .int x1, .int x2, .int x3] [] σ K := by
  refine pw_iload_n dc_Mod_take_19 rfl ?_
  refine pw_iload_n dc_Mod_take_20 rfl ?_
  refine pw_icmp_eq (tgt := 59) dc_Mod_take_21 (by decide) (fun hc => ?_) (fun hc => ?_)
  · have h := ite_t h hc
    refine pw_aload_n dc_Mod_take_59 rfl rfl ?_
    obtain ⟨hs1, h⟩ := h
    refine pw_getR (c := 11) (k := 5) (f := 709) dc_Mod_take_60 fl_Mod_25 rfl rfl hs1 ?_
    obtain ⟨b1, hb1, h⟩ := h
    refine PW.top (v' := .ref b1) (congrArg va_rf hb1) ?_
    refine pw_iload_n dc_Mod_take_63 rfl ?_
    refine pw_iload_n dc_Mod_take_64 rfl ?_
    obtain ⟨n1, hs2, h⟩ := h
    obtain ⟨hi1, h⟩ := h
    have h := h _ rfl
    refine pw_iast dc_Mod_take_65 hs2 hi1 ?_
    exact pw_vret dc_Mod_take_66 rfl h
  · have h := ite_f h hc
    refine pw_aload_n dc_Mod_take_24 rfl rfl ?_
    obtain ⟨hs3, h⟩ := h
    refine pw_getR (c := 11) (k := 7) (f := 711) dc_Mod_take_25 fl_Mod_31 rfl rfl hs3 ?_
    obtain ⟨b2, hb2, h⟩ := h
    refine PW.top (v' := .ref b2) (congrArg va_rf hb2) ?_
    refine pw_bipush (v := 40) dc_Mod_take_28 (by decide) ?_
    refine pw_iload_n dc_Mod_take_30 rfl ?_
    refine pw_imul dc_Mod_take_31 ?_
    refine pw_aload_n dc_Mod_take_32 rfl rfl ?_
    refine pw_getR (c := 11) (k := 6) (f := 710) dc_Mod_take_33 fl_Mod_28 rfl rfl hs3 ?_
    obtain ⟨b3, hb3, h⟩ := h
    refine PW.top (v' := .ref b3) (congrArg va_rf hb3) ?_
    refine pw_iload_n dc_Mod_take_36 rfl ?_
    obtain ⟨n2, hs4, h⟩ := h
    obtain ⟨hi2, h⟩ := h
    refine pw_iald dc_Mod_take_37 hs4 hi2 ?_
    refine pw_iadd dc_Mod_take_38 ?_
    refine pw_iload_n dc_Mod_take_39 rfl ?_
    obtain ⟨n3, hs5, h⟩ := h
    obtain ⟨hi3, h⟩ := h
    have h := h _ rfl
    refine pw_iast dc_Mod_take_40 hs5 hi3 ?_
    refine pw_aload_n dc_Mod_take_41 rfl rfl ?_
    obtain ⟨hs6, h⟩ := h
    refine pw_getR (c := 11) (k := 6) (f := 710) dc_Mod_take_42 fl_Mod_28 rfl rfl hs6 ?_
    obtain ⟨b4, hb4, h⟩ := h
    refine PW.top (v' := .ref b4) (congrArg va_rf hb4) ?_
    refine pw_iload_n dc_Mod_take_45 rfl ?_
    refine pw_dup2 dc_Mod_take_46 rfl rfl ?_
    obtain ⟨n4, hs7, h⟩ := h
    obtain ⟨hi4, h⟩ := h
    refine pw_iald dc_Mod_take_47 hs7 hi4 ?_
    refine pw_iconst (v := 1) dc_Mod_take_48 (by decide) ?_
    refine pw_iadd dc_Mod_take_49 ?_
    obtain ⟨hi5, h⟩ := h
    have h := h _ rfl
    refine pw_iast dc_Mod_take_50 hs7 hi5 ?_
    refine pw_iload_n dc_Mod_take_51 rfl ?_
    refine pw_callS (vs := [.int x3]) (st := []) dc_Mod_take_52 cq_Mod_after (List.mem_of_getElem? (i := 1200) (by decide +kernel)) (List.mem_of_getElem? (i := 1199) (by decide +kernel)) rfl rfl (cat_cons rfl (cat_nil)) (Nat.le_of_ble_eq_true rfl) (PW.mono (kI_kN (fun r1 σ4 h => ?_)) h)
    refine pw_istore_n dc_Mod_take_55 (by decide) ?_
    refine pw_goto (tgt := 19) dc_Mod_take_56 (by decide) ?_
    exact h
set_option maxRecDepth 20000 in
theorem e_Mod_take_84 {d : Nat} {σ : PH} {K : PO → PH → Prop} (x0 : Nat) (x1 : Int32) (x3 : Int32) (h : sh σ x0 = (1, 11) ∧ (∃ b1 : Nat, gR σ 710 x0 = some b1 ∧ (∃ n1 : Nat, sh σ b1 = (2, n1) ∧ vp_in x1 n1 ∧ (if (eI σ b1 (ix x1)) ≤ x3 then K (.inl none) σ else (∃ b2 : Nat, gR σ 711 x0 = some b2 ∧ (∃ n2 : Nat, sh σ b2 = (2, n2) ∧ vp_in (((40 * x1) + x3) + 1) n2 ∧ vp_in ((40 * x1) + x3) n2 ∧ (∀ σ1 : PH, σ1 = uI σ b2 (ix ((40 * x1) + x3)) (eI σ b2 (ix (((40 * x1) + x3) + 1))) → PW (d + 1) M_Mod_take 84 [.ref x0, .int x1, uu, .int (x3 + 1)] [] σ1 K))))))) : PW (d + 1) M_Mod_take 84 [.ref x0, .int x1, uu, .int x3] [] σ K := by
  refine pw_iload_n dc_Mod_take_84 rfl ?_
  refine pw_aload_n dc_Mod_take_85 rfl rfl ?_
  obtain ⟨hs1, h⟩ := h
  refine pw_getR (c := 11) (k := 6) (f := 710) dc_Mod_take_86 fl_Mod_28 rfl rfl hs1 ?_
  obtain ⟨b1, hb1, h⟩ := h
  refine PW.top (v' := .ref b1) (congrArg va_rf hb1) ?_
  refine pw_iload_n dc_Mod_take_89 rfl ?_
  obtain ⟨n1, hs2, h⟩ := h
  obtain ⟨hi1, h⟩ := h
  refine pw_iald dc_Mod_take_90 hs2 hi1 ?_
  refine pw_icmp_ge (tgt := 124) dc_Mod_take_91 (by decide) (fun hc => ?_) (fun hc => ?_)
  · have h := ite_t h hc
    exact pw_vret dc_Mod_take_124 rfl h
  · have h := ite_f h hc
    refine pw_aload_n dc_Mod_take_94 rfl rfl ?_
    refine pw_getR (c := 11) (k := 7) (f := 711) dc_Mod_take_95 fl_Mod_31 rfl rfl hs1 ?_
    obtain ⟨b2, hb2, h⟩ := h
    refine PW.top (v' := .ref b2) (congrArg va_rf hb2) ?_
    refine pw_bipush (v := 40) dc_Mod_take_98 (by decide) ?_
    refine pw_iload_n dc_Mod_take_100 rfl ?_
    refine pw_imul dc_Mod_take_101 ?_
    refine pw_iload_n dc_Mod_take_102 rfl ?_
    refine pw_iadd dc_Mod_take_103 ?_
    refine pw_aload_n dc_Mod_take_104 rfl rfl ?_
    refine pw_getR (c := 11) (k := 7) (f := 711) dc_Mod_take_105 fl_Mod_31 rfl rfl hs1 ?_
    refine PW.top (v' := .ref b2) (congrArg va_rf hb2) ?_
    refine pw_bipush (v := 40) dc_Mod_take_108 (by decide) ?_
    refine pw_iload_n dc_Mod_take_110 rfl ?_
    refine pw_imul dc_Mod_take_111 ?_
    refine pw_iload_n dc_Mod_take_112 rfl ?_
    refine pw_iadd dc_Mod_take_113 ?_
    refine pw_iconst (v := 1) dc_Mod_take_114 (by decide) ?_
    refine pw_iadd dc_Mod_take_115 ?_
    obtain ⟨n2, hs3, h⟩ := h
    obtain ⟨hi2, h⟩ := h
    refine pw_iald dc_Mod_take_116 hs3 hi2 ?_
    obtain ⟨hi3, h⟩ := h
    have h := h _ rfl
    refine pw_iast dc_Mod_take_117 hs3 hi3 ?_
    refine pw_iincv (v := 1) dc_Mod_take_118 (by decide) rfl (by decide) ?_
    refine pw_goto (tgt := 84) dc_Mod_take_121 (by decide) ?_
    exact h
theorem dc_Mod_missingAt2_0 : decode M_Mod_missingAt2.2.1 0 = .ok (.iconst 0, 1) := by decide +kernel
theorem dc_Mod_missingAt2_1 : decode M_Mod_missingAt2.2.1 1 = .ok (.istore_n 3, 1) := by decide +kernel
theorem dc_Mod_missingAt2_2 : decode M_Mod_missingAt2.2.1 2 = .ok (.aload_n 0, 1) := by decide +kernel
theorem dc_Mod_missingAt2_3 : decode M_Mod_missingAt2.2.1 3 = .ok (.getfield 31, 3) := by decide +kernel
theorem dc_Mod_missingAt2_6 : decode M_Mod_missingAt2.2.1 6 = .ok (.bipush 40, 2) := by decide +kernel
theorem dc_Mod_missingAt2_8 : decode M_Mod_missingAt2.2.1 8 = .ok (.iload_n 1, 1) := by decide +kernel
theorem dc_Mod_missingAt2_9 : decode M_Mod_missingAt2.2.1 9 = .ok (.imul, 1) := by decide +kernel
theorem dc_Mod_missingAt2_10 : decode M_Mod_missingAt2.2.1 10 = .ok (.iload_n 3, 1) := by decide +kernel
theorem dc_Mod_missingAt2_11 : decode M_Mod_missingAt2.2.1 11 = .ok (.iadd, 1) := by decide +kernel
theorem dc_Mod_missingAt2_12 : decode M_Mod_missingAt2.2.1 12 = .ok (.iaload, 1) := by decide +kernel
theorem dc_Mod_missingAt2_13 : decode M_Mod_missingAt2.2.1 13 = .ok (.iload_n 2, 1) := by decide +kernel
theorem dc_Mod_missingAt2_14 : decode M_Mod_missingAt2.2.1 14 = .ok (.if_icmp .eq 9, 3) := by decide +kernel
theorem dc_Mod_missingAt2_17 : decode M_Mod_missingAt2.2.1 17 = .ok (.iinc 3 1, 3) := by decide +kernel
theorem dc_Mod_missingAt2_20 : decode M_Mod_missingAt2.2.1 20 = .ok (.goto (-18), 3) := by decide +kernel
theorem dc_Mod_missingAt2_23 : decode M_Mod_missingAt2.2.1 23 = .ok (.iload_n 3, 1) := by decide +kernel
theorem dc_Mod_missingAt2_24 : decode M_Mod_missingAt2.2.1 24 = .ok (.ireturn, 1) := by decide +kernel
set_option maxRecDepth 20000 in
theorem e_Mod_missingAt2_0 {d : Nat} {σ : PH} {K : PO → PH → Prop} (x0 : Nat) (x1 : Int32) (x2 : Int32) (h : PW d M_Mod_missingAt2 2 [.ref x0, .int x1, .int x2, .int 0] [] σ K) : PW d M_Mod_missingAt2 0 [.ref x0, .int x1, .int x2, uu] [] σ K := by
  refine pw_iconst (v := 0) dc_Mod_missingAt2_0 (by decide) ?_
  refine pw_istore_n dc_Mod_missingAt2_1 (by decide) ?_
  exact h
set_option maxRecDepth 20000 in
theorem e_Mod_missingAt2_2 {d : Nat} {σ : PH} {K : PO → PH → Prop} (x0 : Nat) (x1 : Int32) (x2 : Int32) (x3 : Int32) (h : sh σ x0 = (1, 11) ∧ (∃ b1 : Nat, gR σ 711 x0 = some b1 ∧ (∃ n1 : Nat, sh σ b1 = (2, n1) ∧ vp_in ((40 * x1) + x3) n1 ∧ (if (eI σ b1 (ix ((40 * x1) + x3))) = x2 then K (.inl (some (.int x3))) σ else PW d M_Mod_missingAt2 2 [.ref x0, .int x1, .int x2, .int (x3 + 1)] [] σ K)))) : PW d M_Mod_missingAt2 2 [.ref x0, .int x1, .int x2, .int x3] [] σ K := by
  refine pw_aload_n dc_Mod_missingAt2_2 rfl rfl ?_
  obtain ⟨hs1, h⟩ := h
  refine pw_getR (c := 11) (k := 7) (f := 711) dc_Mod_missingAt2_3 fl_Mod_31 rfl rfl hs1 ?_
  obtain ⟨b1, hb1, h⟩ := h
  refine PW.top (v' := .ref b1) (congrArg va_rf hb1) ?_
  refine pw_bipush (v := 40) dc_Mod_missingAt2_6 (by decide) ?_
  refine pw_iload_n dc_Mod_missingAt2_8 rfl ?_
  refine pw_imul dc_Mod_missingAt2_9 ?_
  refine pw_iload_n dc_Mod_missingAt2_10 rfl ?_
  refine pw_iadd dc_Mod_missingAt2_11 ?_
  obtain ⟨n1, hs2, h⟩ := h
  obtain ⟨hi1, h⟩ := h
  refine pw_iald dc_Mod_missingAt2_12 hs2 hi1 ?_
  refine pw_iload_n dc_Mod_missingAt2_13 rfl ?_
  refine pw_icmp_eq (tgt := 23) dc_Mod_missingAt2_14 (by decide) (fun hc => ?_) (fun hc => ?_)
  · have h := ite_t h hc
    refine pw_iload_n dc_Mod_missingAt2_23 rfl ?_
    exact pw_iret dc_Mod_missingAt2_24 rfl rfl h
  · have h := ite_f h hc
    refine pw_iincv (v := 1) dc_Mod_missingAt2_17 (by decide) rfl (by decide) ?_
    refine pw_goto (tgt := 2) dc_Mod_missingAt2_20 (by decide) ?_
    exact h
theorem dc_Mod_addCase_0 : decode M_Mod_addCase.2.1 0 = .ok (.aload_n 0, 1) := by decide +kernel
theorem dc_Mod_addCase_1 : decode M_Mod_addCase.2.1 1 = .ok (.getfield 235, 3) := by decide +kernel
theorem dc_Mod_addCase_4 : decode M_Mod_addCase.2.1 4 = .ok (.bipush 6, 2) := by decide +kernel
theorem dc_Mod_addCase_6 : decode M_Mod_addCase.2.1 6 = .ok (.if_icmp .ge 33, 3) := by decide +kernel
theorem dc_Mod_addCase_9 : decode M_Mod_addCase.2.1 9 = .ok (.aload_n 0, 1) := by decide +kernel
theorem dc_Mod_addCase_10 : decode M_Mod_addCase.2.1 10 = .ok (.dup, 1) := by decide +kernel
theorem dc_Mod_addCase_11 : decode M_Mod_addCase.2.1 11 = .ok (.getfield 235, 3) := by decide +kernel
theorem dc_Mod_addCase_14 : decode M_Mod_addCase.2.1 14 = .ok (.iconst 1, 1) := by decide +kernel
theorem dc_Mod_addCase_15 : decode M_Mod_addCase.2.1 15 = .ok (.iadd, 1) := by decide +kernel
theorem dc_Mod_addCase_16 : decode M_Mod_addCase.2.1 16 = .ok (.putfield 235, 3) := by decide +kernel
theorem dc_Mod_addCase_19 : decode M_Mod_addCase.2.1 19 = .ok (.aload_n 0, 1) := by decide +kernel
theorem dc_Mod_addCase_20 : decode M_Mod_addCase.2.1 20 = .ok (.getfield 73, 3) := by decide +kernel
theorem dc_Mod_addCase_23 : decode M_Mod_addCase.2.1 23 = .ok (.aload_n 0, 1) := by decide +kernel
theorem dc_Mod_addCase_24 : decode M_Mod_addCase.2.1 24 = .ok (.getfield 235, 3) := by decide +kernel
theorem dc_Mod_addCase_27 : decode M_Mod_addCase.2.1 27 = .ok (.iload_n 1, 1) := by decide +kernel
theorem dc_Mod_addCase_28 : decode M_Mod_addCase.2.1 28 = .ok (.iastore, 1) := by decide +kernel
theorem dc_Mod_addCase_29 : decode M_Mod_addCase.2.1 29 = .ok (.aload_n 0, 1) := by decide +kernel
theorem dc_Mod_addCase_30 : decode M_Mod_addCase.2.1 30 = .ok (.getfield 76, 3) := by decide +kernel
theorem dc_Mod_addCase_33 : decode M_Mod_addCase.2.1 33 = .ok (.aload_n 0, 1) := by decide +kernel
theorem dc_Mod_addCase_34 : decode M_Mod_addCase.2.1 34 = .ok (.getfield 235, 3) := by decide +kernel
theorem dc_Mod_addCase_37 : decode M_Mod_addCase.2.1 37 = .ok (.iconst 0, 1) := by decide +kernel
theorem dc_Mod_addCase_38 : decode M_Mod_addCase.2.1 38 = .ok (.iastore, 1) := by decide +kernel
theorem dc_Mod_addCase_39 : decode M_Mod_addCase.2.1 39 = .ok (.return_, 1) := by decide +kernel
set_option maxRecDepth 20000 in
theorem e_Mod_addCase_0 {d : Nat} {σ : PH} {K : PO → PH → Prop} (x0 : Nat) (x1 : Int32) (h : sh σ x0 = (1, 11) ∧ (if 6 ≤ (gI σ 727 x0) then K (.inl none) σ else (∀ σ1 : PH, σ1 = pI σ 727 x0 ((gI σ 727 x0) + 1) → sh σ1 x0 = (1, 11) ∧ (∃ b1 : Nat, gR σ1 728 x0 = some b1 ∧ (∃ n1 : Nat, sh σ1 b1 = (2, n1) ∧ vp_in (gI σ1 727 x0) n1 ∧ (∀ σ2 : PH, σ2 = uI σ1 b1 (ix (gI σ1 727 x0)) x1 → sh σ2 x0 = (1, 11) ∧ (∃ b2 : Nat, gR σ2 729 x0 = some b2 ∧ (∃ n2 : Nat, sh σ2 b2 = (2, n2) ∧ vp_in (gI σ2 727 x0) n2 ∧ (∀ σ3 : PH, σ3 = uI σ2 b2 (ix (gI σ2 727 x0)) 0 → K (.inl none) σ3))))))))) : PW d M_Mod_addCase 0 [.ref x0, .int x1] [] σ K := by
  refine pw_aload_n dc_Mod_addCase_0 rfl rfl ?_
  obtain ⟨hs1, h⟩ := h
  refine pw_getI (c := 11) (k := 23) (f := 727) dc_Mod_addCase_1 fl_Mod_235 rfl rfl hs1 ?_
  refine pw_bipush (v := 6) dc_Mod_addCase_4 (by decide) ?_
  refine pw_icmp_ge (tgt := 39) dc_Mod_addCase_6 (by decide) (fun hc => ?_) (fun hc => ?_)
  · have h := ite_t h hc
    exact pw_vret dc_Mod_addCase_39 rfl h
  · have h := ite_f h hc
    refine pw_aload_n dc_Mod_addCase_9 rfl rfl ?_
    refine pw_dup dc_Mod_addCase_10 rfl ?_
    refine pw_getI (c := 11) (k := 23) (f := 727) dc_Mod_addCase_11 fl_Mod_235 rfl rfl hs1 ?_
    refine pw_iconst (v := 1) dc_Mod_addCase_14 (by decide) ?_
    refine pw_iadd dc_Mod_addCase_15 ?_
    have h := h _ rfl
    refine pw_putI (c := 11) (k := 23) (f := 727) dc_Mod_addCase_16 fl_Mod_235 (Or.inl rfl) rfl rfl hs1 ?_
    refine pw_aload_n dc_Mod_addCase_19 rfl rfl ?_
    obtain ⟨hs2, h⟩ := h
    refine pw_getR (c := 11) (k := 24) (f := 728) dc_Mod_addCase_20 fl_Mod_73 rfl rfl hs2 ?_
    obtain ⟨b1, hb1, h⟩ := h
    refine PW.top (v' := .ref b1) (congrArg va_rf hb1) ?_
    refine pw_aload_n dc_Mod_addCase_23 rfl rfl ?_
    refine pw_getI (c := 11) (k := 23) (f := 727) dc_Mod_addCase_24 fl_Mod_235 rfl rfl hs2 ?_
    refine pw_iload_n dc_Mod_addCase_27 rfl ?_
    obtain ⟨n1, hs3, h⟩ := h
    obtain ⟨hi1, h⟩ := h
    have h := h _ rfl
    refine pw_iast dc_Mod_addCase_28 hs3 hi1 ?_
    refine pw_aload_n dc_Mod_addCase_29 rfl rfl ?_
    obtain ⟨hs4, h⟩ := h
    refine pw_getR (c := 11) (k := 25) (f := 729) dc_Mod_addCase_30 fl_Mod_76 rfl rfl hs4 ?_
    obtain ⟨b2, hb2, h⟩ := h
    refine PW.top (v' := .ref b2) (congrArg va_rf hb2) ?_
    refine pw_aload_n dc_Mod_addCase_33 rfl rfl ?_
    refine pw_getI (c := 11) (k := 23) (f := 727) dc_Mod_addCase_34 fl_Mod_235 rfl rfl hs4 ?_
    refine pw_iconst (v := 0) dc_Mod_addCase_37 (by decide) ?_
    obtain ⟨n2, hs5, h⟩ := h
    obtain ⟨hi2, h⟩ := h
    have h := h _ rfl
    refine pw_iast dc_Mod_addCase_38 hs5 hi2 ?_
    exact pw_vret dc_Mod_addCase_39 rfl h
theorem dc_Mod_finish_0 : decode M_Mod_finish.2.1 0 = .ok (.aload_n 0, 1) := by decide +kernel
theorem dc_Mod_finish_1 : decode M_Mod_finish.2.1 1 = .ok (.invokevirtual 238, 3) := by decide +kernel
theorem dc_Mod_finish_4 : decode M_Mod_finish.2.1 4 = .ok (.istore_n 2, 1) := by decide +kernel
theorem dc_Mod_finish_5 : decode M_Mod_finish.2.1 5 = .ok (.iload_n 2, 1) := by decide +kernel
theorem dc_Mod_finish_6 : decode M_Mod_finish.2.1 6 = .ok (.iconst 1, 1) := by decide +kernel
theorem dc_Mod_finish_7 : decode M_Mod_finish.2.1 7 = .ok (.if_icmp .ne 10, 3) := by decide +kernel
theorem dc_Mod_finish_10 : decode M_Mod_finish.2.1 10 = .ok (.aload_n 0, 1) := by decide +kernel
theorem dc_Mod_finish_11 : decode M_Mod_finish.2.1 11 = .ok (.iconst 1, 1) := by decide +kernel
theorem dc_Mod_finish_12 : decode M_Mod_finish.2.1 12 = .ok (.invokevirtual 241, 3) := by decide +kernel
theorem dc_Mod_finish_15 : decode M_Mod_finish.2.1 15 = .ok (.iconst 3, 1) := by decide +kernel
theorem dc_Mod_finish_16 : decode M_Mod_finish.2.1 16 = .ok (.ireturn, 1) := by decide +kernel
theorem dc_Mod_finish_17 : decode M_Mod_finish.2.1 17 = .ok (.aload_n 0, 1) := by decide +kernel
theorem dc_Mod_finish_18 : decode M_Mod_finish.2.1 18 = .ok (.iload_n 1, 1) := by decide +kernel
theorem dc_Mod_finish_19 : decode M_Mod_finish.2.1 19 = .ok (.aload_n 0, 1) := by decide +kernel
theorem dc_Mod_finish_20 : decode M_Mod_finish.2.1 20 = .ok (.getfield 208, 3) := by decide +kernel
theorem dc_Mod_finish_23 : decode M_Mod_finish.2.1 23 = .ok (.invokevirtual 227, 3) := by decide +kernel
theorem dc_Mod_finish_26 : decode M_Mod_finish.2.1 26 = .ok (.ifCond .ne 17, 3) := by decide +kernel
theorem dc_Mod_finish_29 : decode M_Mod_finish.2.1 29 = .ok (.aload_n 0, 1) := by decide +kernel
theorem dc_Mod_finish_30 : decode M_Mod_finish.2.1 30 = .ok (.iload_n 1, 1) := by decide +kernel
theorem dc_Mod_finish_31 : decode M_Mod_finish.2.1 31 = .ok (.aload_n 0, 1) := by decide +kernel
theorem dc_Mod_finish_32 : decode M_Mod_finish.2.1 32 = .ok (.getfield 208, 3) := by decide +kernel
theorem dc_Mod_finish_35 : decode M_Mod_finish.2.1 35 = .ok (.invokevirtual 244, 3) := by decide +kernel
theorem dc_Mod_finish_38 : decode M_Mod_finish.2.1 38 = .ok (.ifCond .ge 5, 3) := by decide +kernel
theorem dc_Mod_finish_41 : decode M_Mod_finish.2.1 41 = .ok (.iconst 2, 1) := by decide +kernel
theorem dc_Mod_finish_42 : decode M_Mod_finish.2.1 42 = .ok (.ireturn, 1) := by decide +kernel
theorem dc_Mod_finish_43 : decode M_Mod_finish.2.1 43 = .ok (.aload_n 0, 1) := by decide +kernel
theorem dc_Mod_finish_44 : decode M_Mod_finish.2.1 44 = .ok (.getfield 247, 3) := by decide +kernel
theorem dc_Mod_finish_47 : decode M_Mod_finish.2.1 47 = .ok (.bipush 10, 2) := by decide +kernel
theorem dc_Mod_finish_49 : decode M_Mod_finish.2.1 49 = .ok (.if_icmp .ne 5, 3) := by decide +kernel
theorem dc_Mod_finish_52 : decode M_Mod_finish.2.1 52 = .ok (.iconst 4, 1) := by decide +kernel
theorem dc_Mod_finish_53 : decode M_Mod_finish.2.1 53 = .ok (.ireturn, 1) := by decide +kernel
theorem dc_Mod_finish_54 : decode M_Mod_finish.2.1 54 = .ok (.aload_n 0, 1) := by decide +kernel
theorem dc_Mod_finish_55 : decode M_Mod_finish.2.1 55 = .ok (.iload_n 1, 1) := by decide +kernel
theorem dc_Mod_finish_56 : decode M_Mod_finish.2.1 56 = .ok (.aload_n 0, 1) := by decide +kernel
theorem dc_Mod_finish_57 : decode M_Mod_finish.2.1 57 = .ok (.getfield 208, 3) := by decide +kernel
theorem dc_Mod_finish_60 : decode M_Mod_finish.2.1 60 = .ok (.invokevirtual 250, 3) := by decide +kernel
theorem dc_Mod_finish_63 : decode M_Mod_finish.2.1 63 = .ok (.iload_n 2, 1) := by decide +kernel
theorem dc_Mod_finish_64 : decode M_Mod_finish.2.1 64 = .ok (.ifCond .le 10, 3) := by decide +kernel
theorem dc_Mod_finish_67 : decode M_Mod_finish.2.1 67 = .ok (.aload_n 0, 1) := by decide +kernel
theorem dc_Mod_finish_68 : decode M_Mod_finish.2.1 68 = .ok (.iload_n 2, 1) := by decide +kernel
theorem dc_Mod_finish_69 : decode M_Mod_finish.2.1 69 = .ok (.invokevirtual 241, 3) := by decide +kernel
theorem dc_Mod_finish_72 : decode M_Mod_finish.2.1 72 = .ok (.iconst 3, 1) := by decide +kernel
theorem dc_Mod_finish_73 : decode M_Mod_finish.2.1 73 = .ok (.ireturn, 1) := by decide +kernel
theorem dc_Mod_finish_74 : decode M_Mod_finish.2.1 74 = .ok (.aload_n 0, 1) := by decide +kernel
theorem dc_Mod_finish_75 : decode M_Mod_finish.2.1 75 = .ok (.invokevirtual 254, 3) := by decide +kernel
theorem dc_Mod_finish_78 : decode M_Mod_finish.2.1 78 = .ok (.aload_n 0, 1) := by decide +kernel
theorem dc_Mod_finish_79 : decode M_Mod_finish.2.1 79 = .ok (.invokevirtual 257, 3) := by decide +kernel
theorem dc_Mod_finish_82 : decode M_Mod_finish.2.1 82 = .ok (.aload_n 0, 1) := by decide +kernel
theorem dc_Mod_finish_83 : decode M_Mod_finish.2.1 83 = .ok (.getfield 260, 3) := by decide +kernel
theorem dc_Mod_finish_86 : decode M_Mod_finish.2.1 86 = .ok (.ifCond .eq 8, 3) := by decide +kernel
theorem dc_Mod_finish_89 : decode M_Mod_finish.2.1 89 = .ok (.aload_n 0, 1) := by decide +kernel
theorem dc_Mod_finish_90 : decode M_Mod_finish.2.1 90 = .ok (.iconst 5, 1) := by decide +kernel
theorem dc_Mod_finish_91 : decode M_Mod_finish.2.1 91 = .ok (.invokevirtual 241, 3) := by decide +kernel
theorem dc_Mod_finish_94 : decode M_Mod_finish.2.1 94 = .ok (.iconst 1, 1) := by decide +kernel
theorem dc_Mod_finish_95 : decode M_Mod_finish.2.1 95 = .ok (.ireturn, 1) := by decide +kernel
set_option maxRecDepth 20000 in
theorem e_Mod_finish_0 {d : Nat} {σ : PH} {K : PO → PH → Prop} (x0 : Nat) (x1 : Int32) (h : sh σ x0 = (1, 11) ∧ PW d M_Mod_faultOfText 0 [.ref x0, uu, uu, uu, uu] [] σ (kI (fun r1 σ1 => (if r1 = 1 then sh σ1 x0 = (1, 11) ∧ PW d M_Mod_addCase 0 [.ref x0, .int 1] [] σ1 (kV (fun σ4 => K (.inl (some (.int 3))) σ4) K) else sh σ1 x0 = (1, 11) ∧ PW d M_Mod_isDue 0 [.ref x0, .int x1, .int (gI σ1 748 x0), uu] [] σ1 (kI (fun r2 σ2 => (if r2 = 0 then sh σ2 x0 = (1, 11) ∧ PW d M_Mod_missingAt 0 [.ref x0, .int x1, .int (gI σ2 748 x0), uu, uu] [] σ2 (kI (fun r3 σ3 => (if 0 ≤ r3 then PW (d + 1) M_Mod_finish 43 [.ref x0, .int x1, .int r1] [] σ3 K else K (.inl (some (.int 2))) σ3)) K) else PW (d + 1) M_Mod_finish 43 [.ref x0, .int x1, .int r1] [] σ2 K)) K))) K)) : PW (d + 1) M_Mod_finish 0 [.ref x0, .int x1, uu] [] σ K := by
  refine pw_aload_n dc_Mod_finish_0 rfl rfl ?_
  obtain ⟨hs1, h⟩ := h
  refine pw_callV (vs := []) (st := []) (b := x0) (cn := 11) dc_Mod_finish_1 cq_Mod_faultOfText (List.mem_of_getElem? (i := 1163) (by decide +kernel)) (List.mem_of_getElem? (i := 32) (by decide +kernel)) (List.mem_of_getElem? (i := 1161) (by decide +kernel)) rfl hs1 rfl rfl (by decide) (cat_nil) (Nat.le_of_ble_eq_true rfl) (PW.mono (kI_kN (fun r1 σ1 h => ?_)) h)
  refine pw_istore_n dc_Mod_finish_4 (by decide) ?_
  refine pw_iload_n dc_Mod_finish_5 rfl ?_
  refine pw_iconst (v := 1) dc_Mod_finish_6 (by decide) ?_
  refine pw_icmp_ne (tgt := 17) dc_Mod_finish_7 (by decide) (fun hc => ?_) (fun hc => ?_)
  · have h := ite_f h hc
    refine pw_aload_n dc_Mod_finish_17 rfl rfl ?_
    refine pw_iload_n dc_Mod_finish_18 rfl ?_
    refine pw_aload_n dc_Mod_finish_19 rfl rfl ?_
    obtain ⟨hs2, h⟩ := h
    refine pw_getI (c := 11) (k := 44) (f := 748) dc_Mod_finish_20 fl_Mod_208 rfl rfl hs2 ?_
    refine pw_callV (vs := [.int x1, .int (gI σ1 748 x0)]) (st := []) (b := x0) (cn := 11) dc_Mod_finish_23 cq_Mod_isDue (List.mem_of_getElem? (i := 1193) (by decide +kernel)) (List.mem_of_getElem? (i := 38) (by decide +kernel)) (List.mem_of_getElem? (i := 1191) (by decide +kernel)) rfl hs2 rfl rfl (by decide) (cat_cons rfl (cat_cons rfl (cat_nil))) (Nat.le_of_ble_eq_true rfl) (PW.mono (kI_kN (fun r2 σ2 h => ?_)) h)
    refine pw_if_ne (tgt := 43) dc_Mod_finish_26 (by decide) (fun hc => ?_) (fun hc => ?_)
    · have h := ite_f h hc
      exact h
    · have h := ite_t h hc
      refine pw_aload_n dc_Mod_finish_29 rfl rfl ?_
      refine pw_iload_n dc_Mod_finish_30 rfl ?_
      refine pw_aload_n dc_Mod_finish_31 rfl rfl ?_
      obtain ⟨hs3, h⟩ := h
      refine pw_getI (c := 11) (k := 44) (f := 748) dc_Mod_finish_32 fl_Mod_208 rfl rfl hs3 ?_
      refine pw_callV (vs := [.int x1, .int (gI σ2 748 x0)]) (st := []) (b := x0) (cn := 11) dc_Mod_finish_35 cq_Mod_missingAt (List.mem_of_getElem? (i := 1204) (by decide +kernel)) (List.mem_of_getElem? (i := 40) (by decide +kernel)) (List.mem_of_getElem? (i := 1202) (by decide +kernel)) rfl hs3 rfl rfl (by decide) (cat_cons rfl (cat_cons rfl (cat_nil))) (Nat.le_of_ble_eq_true rfl) (PW.mono (kI_kN (fun r3 σ3 h => ?_)) h)
      refine pw_if_ge (tgt := 43) dc_Mod_finish_38 (by decide) (fun hc => ?_) (fun hc => ?_)
      · have h := ite_t h hc
        exact h
      · have h := ite_f h hc
        refine pw_iconst (v := 2) dc_Mod_finish_41 (by decide) ?_
        exact pw_iret dc_Mod_finish_42 rfl rfl h
  · have h := ite_t h hc
    refine pw_aload_n dc_Mod_finish_10 rfl rfl ?_
    refine pw_iconst (v := 1) dc_Mod_finish_11 (by decide) ?_
    obtain ⟨hs4, h⟩ := h
    refine pw_callV (vs := [.int 1]) (st := []) (b := x0) (cn := 11) dc_Mod_finish_12 cq_Mod_addCase (List.mem_of_getElem? (i := 1189) (by decide +kernel)) (List.mem_of_getElem? (i := 37) (by decide +kernel)) (List.mem_of_getElem? (i := 1187) (by decide +kernel)) rfl hs4 rfl rfl (by decide) (cat_cons rfl (cat_nil)) (Nat.le_of_ble_eq_true rfl) (PW.mono (kV_kN (fun σ4 h => ?_)) h)
    refine pw_iconst (v := 3) dc_Mod_finish_15 (by decide) ?_
    exact pw_iret dc_Mod_finish_16 rfl rfl h
set_option maxRecDepth 20000 in
theorem e_Mod_finish_43 {d : Nat} {σ : PH} {K : PO → PH → Prop} (x0 : Nat) (x1 : Int32) (x2 : Int32) (h : sh σ x0 = (1, 11) ∧ (if (gI σ 719 x0) = 10 then K (.inl (some (.int 4))) σ else PW d M_Mod_take 0 [.ref x0, .int x1, .int (gI σ 748 x0), uu] [] σ (kV (fun σ1 => (if x2 ≤ 0 then sh σ1 x0 = (1, 11) ∧ PW d M_Mod_look 0 [.ref x0, uu] [] σ1 (kV (fun σ2 => sh σ2 x0 = (1, 11) ∧ PW d M_Mod_addMessage 0 [.ref x0, uu, uu] [] σ2 (kV (fun σ3 => sh σ3 x0 = (1, 11) ∧ (if (gI σ3 753 x0) = 0 then K (.inl (some (.int 1))) σ3 else PW d M_Mod_addCase 0 [.ref x0, .int 5] [] σ3 (kV (fun σ4 => K (.inl (some (.int 1))) σ4) K))) K)) K) else sh σ1 x0 = (1, 11) ∧ PW d M_Mod_addCase 0 [.ref x0, .int x2] [] σ1 (kV (fun σ5 => K (.inl (some (.int 3))) σ5) K))) K))) : PW (d + 1) M_Mod_finish 43 [.ref x0, .int x1, .int x2] [] σ K := by
  refine pw_aload_n dc_Mod_finish_43 rfl rfl ?_
  obtain ⟨hs1, h⟩ := h
  refine pw_getI (c := 11) (k := 15) (f := 719) dc_Mod_finish_44 fl_Mod_247 rfl rfl hs1 ?_
  refine pw_bipush (v := 10) dc_Mod_finish_47 (by decide) ?_
  refine pw_icmp_ne (tgt := 54) dc_Mod_finish_49 (by decide) (fun hc => ?_) (fun hc => ?_)
  · have h := ite_f h hc
    refine pw_aload_n dc_Mod_finish_54 rfl rfl ?_
    refine pw_iload_n dc_Mod_finish_55 rfl ?_
    refine pw_aload_n dc_Mod_finish_56 rfl rfl ?_
    refine pw_getI (c := 11) (k := 44) (f := 748) dc_Mod_finish_57 fl_Mod_208 rfl rfl hs1 ?_
    refine pw_callV (vs := [.int x1, .int (gI σ 748 x0)]) (st := []) (b := x0) (cn := 11) dc_Mod_finish_60 cq_Mod_take (List.mem_of_getElem? (i := 1208) (by decide +kernel)) (List.mem_of_getElem? (i := 41) (by decide +kernel)) (List.mem_of_getElem? (i := 1206) (by decide +kernel)) rfl hs1 rfl rfl (by decide) (cat_cons rfl (cat_cons rfl (cat_nil))) (Nat.le_of_ble_eq_true rfl) (PW.mono (kV_kN (fun σ1 h => ?_)) h)
    refine pw_iload_n dc_Mod_finish_63 rfl ?_
    refine pw_if_le (tgt := 74) dc_Mod_finish_64 (by decide) (fun hc => ?_) (fun hc => ?_)
    · have h := ite_t h hc
      refine pw_aload_n dc_Mod_finish_74 rfl rfl ?_
      obtain ⟨hs2, h⟩ := h
      refine pw_callV (vs := []) (st := []) (b := x0) (cn := 11) dc_Mod_finish_75 cq_Mod_look (List.mem_of_getElem? (i := 1216) (by decide +kernel)) (List.mem_of_getElem? (i := 43) (by decide +kernel)) (List.mem_of_getElem? (i := 1214) (by decide +kernel)) rfl hs2 rfl rfl (by decide) (cat_nil) (Nat.le_of_ble_eq_true rfl) (PW.mono (kV_kN (fun σ2 h => ?_)) h)
      refine pw_aload_n dc_Mod_finish_78 rfl rfl ?_
      obtain ⟨hs3, h⟩ := h
      refine pw_callV (vs := []) (st := []) (b := x0) (cn := 11) dc_Mod_finish_79 cq_Mod_addMessage (List.mem_of_getElem? (i := 1236) (by decide +kernel)) (List.mem_of_getElem? (i := 48) (by decide +kernel)) (List.mem_of_getElem? (i := 1234) (by decide +kernel)) rfl hs3 rfl rfl (by decide) (cat_nil) (Nat.le_of_ble_eq_true rfl) (PW.mono (kV_kN (fun σ3 h => ?_)) h)
      refine pw_aload_n dc_Mod_finish_82 rfl rfl ?_
      obtain ⟨hs4, h⟩ := h
      refine pw_getI (c := 11) (k := 49) (f := 753) dc_Mod_finish_83 fl_Mod_260 rfl rfl hs4 ?_
      refine pw_if_eq (tgt := 94) dc_Mod_finish_86 (by decide) (fun hc => ?_) (fun hc => ?_)
      · have h := ite_t h hc
        refine pw_iconst (v := 1) dc_Mod_finish_94 (by decide) ?_
        exact pw_iret dc_Mod_finish_95 rfl rfl h
      · have h := ite_f h hc
        refine pw_aload_n dc_Mod_finish_89 rfl rfl ?_
        refine pw_iconst (v := 5) dc_Mod_finish_90 (by decide) ?_
        refine pw_callV (vs := [.int 5]) (st := []) (b := x0) (cn := 11) dc_Mod_finish_91 cq_Mod_addCase (List.mem_of_getElem? (i := 1189) (by decide +kernel)) (List.mem_of_getElem? (i := 37) (by decide +kernel)) (List.mem_of_getElem? (i := 1187) (by decide +kernel)) rfl hs4 rfl rfl (by decide) (cat_cons rfl (cat_nil)) (Nat.le_of_ble_eq_true rfl) (PW.mono (kV_kN (fun σ4 h => ?_)) h)
        refine pw_iconst (v := 1) dc_Mod_finish_94 (by decide) ?_
        exact pw_iret dc_Mod_finish_95 rfl rfl h
    · have h := ite_f h hc
      refine pw_aload_n dc_Mod_finish_67 rfl rfl ?_
      refine pw_iload_n dc_Mod_finish_68 rfl ?_
      obtain ⟨hs5, h⟩ := h
      refine pw_callV (vs := [.int x2]) (st := []) (b := x0) (cn := 11) dc_Mod_finish_69 cq_Mod_addCase (List.mem_of_getElem? (i := 1189) (by decide +kernel)) (List.mem_of_getElem? (i := 37) (by decide +kernel)) (List.mem_of_getElem? (i := 1187) (by decide +kernel)) rfl hs5 rfl rfl (by decide) (cat_cons rfl (cat_nil)) (Nat.le_of_ble_eq_true rfl) (PW.mono (kV_kN (fun σ5 h => ?_)) h)
      refine pw_iconst (v := 3) dc_Mod_finish_72 (by decide) ?_
      exact pw_iret dc_Mod_finish_73 rfl rfl h
  · have h := ite_t h hc
    refine pw_iconst (v := 4) dc_Mod_finish_52 (by decide) ?_
    exact pw_iret dc_Mod_finish_53 rfl rfl h
theorem dc_Mod_receipt_0 : decode M_Mod_receipt.2.1 0 = .ok (.aload_n 0, 1) := by decide +kernel
theorem dc_Mod_receipt_1 : decode M_Mod_receipt.2.1 1 = .ok (.iload_n 1, 1) := by decide +kernel
theorem dc_Mod_receipt_2 : decode M_Mod_receipt.2.1 2 = .ok (.invokestatic 160, 3) := by decide +kernel
theorem dc_Mod_receipt_5 : decode M_Mod_receipt.2.1 5 = .ok (.ifCond .eq 7, 3) := by decide +kernel
theorem dc_Mod_receipt_8 : decode M_Mod_receipt.2.1 8 = .ok (.iconst 0, 1) := by decide +kernel
theorem dc_Mod_receipt_9 : decode M_Mod_receipt.2.1 9 = .ok (.goto 4, 3) := by decide +kernel
theorem dc_Mod_receipt_12 : decode M_Mod_receipt.2.1 12 = .ok (.iconst 1, 1) := by decide +kernel
theorem dc_Mod_receipt_13 : decode M_Mod_receipt.2.1 13 = .ok (.invokevirtual 164, 3) := by decide +kernel
theorem dc_Mod_receipt_16 : decode M_Mod_receipt.2.1 16 = .ok (.ifCond .eq 7, 3) := by decide +kernel
theorem dc_Mod_receipt_19 : decode M_Mod_receipt.2.1 19 = .ok (.iconst 0, 1) := by decide +kernel
theorem dc_Mod_receipt_20 : decode M_Mod_receipt.2.1 20 = .ok (.goto 9, 3) := by decide +kernel
theorem dc_Mod_receipt_23 : decode M_Mod_receipt.2.1 23 = .ok (.aload_n 0, 1) := by decide +kernel
theorem dc_Mod_receipt_24 : decode M_Mod_receipt.2.1 24 = .ok (.getfield 25, 3) := by decide +kernel
theorem dc_Mod_receipt_27 : decode M_Mod_receipt.2.1 27 = .ok (.iload_n 1, 1) := by decide +kernel
theorem dc_Mod_receipt_28 : decode M_Mod_receipt.2.1 28 = .ok (.iaload, 1) := by decide +kernel
theorem dc_Mod_receipt_29 : decode M_Mod_receipt.2.1 29 = .ok (.ireturn, 1) := by decide +kernel
set_option maxRecDepth 20000 in
theorem e_Mod_receipt_0 {d : Nat} {σ : PH} {K : PO → PH → Prop} (x0 : Nat) (x1 : Int32) (h : PW d M_Mod_isChannel 0 [.int x1] [] σ (kI (fun r1 σ1 => (if r1 = 0 then PW (d + 1) M_Mod_receipt 13 [.ref x0, .int x1] [.int 1, .ref x0] σ1 K else PW (d + 1) M_Mod_receipt 13 [.ref x0, .int x1] [.int 0, .ref x0] σ1 K)) K)) : PW (d + 1) M_Mod_receipt 0 [.ref x0, .int x1] [] σ K := by
  refine pw_aload_n dc_Mod_receipt_0 rfl rfl ?_
  refine pw_iload_n dc_Mod_receipt_1 rfl ?_
  refine pw_callS (vs := [.int x1]) (st := [.ref x0]) dc_Mod_receipt_2 cq_Mod_isChannel (List.mem_of_getElem? (i := 1129) (by decide +kernel)) (List.mem_of_getElem? (i := 1128) (by decide +kernel)) rfl rfl (cat_cons rfl (cat_nil)) (Nat.le_of_ble_eq_true rfl) (PW.mono (kI_kN (fun r1 σ1 h => ?_)) h)
  refine pw_if_eq (tgt := 12) dc_Mod_receipt_5 (by decide) (fun hc => ?_) (fun hc => ?_)
  · have h := ite_t h hc
    refine pw_iconst (v := 1) dc_Mod_receipt_12 (by decide) ?_
    exact h
  · have h := ite_f h hc
    refine pw_iconst (v := 0) dc_Mod_receipt_8 (by decide) ?_
    refine pw_goto (tgt := 13) dc_Mod_receipt_9 (by decide) ?_
    exact h
set_option maxRecDepth 20000 in
theorem e_Mod_receipt_13 {d : Nat} {σ : PH} {K : PO → PH → Prop} (x0 : Nat) (x1 : Int32) (y0 : Int32) (y1 : Nat) (h : sh σ y1 = (1, 11) ∧ PW d M_Mod_refused 0 [.ref y1, .int y0] [] σ (kI (fun r1 σ1 => (if r1 = 0 then sh σ1 x0 = (1, 11) ∧ (∃ b1 : Nat, gR σ1 709 x0 = some b1 ∧ (∃ n1 : Nat, sh σ1 b1 = (2, n1) ∧ vp_in x1 n1 ∧ K (.inl (some (.int (eI σ1 b1 (ix x1))))) σ1)) else K (.inl (some (.int 0))) σ1)) K)) : PW (d + 1) M_Mod_receipt 13 [.ref x0, .int x1] [.int y0, .ref y1] σ K := by
  obtain ⟨hs1, h⟩ := h
  refine pw_callV (vs := [.int y0]) (st := []) (b := y1) (cn := 11) dc_Mod_receipt_13 cq_Mod_refused (List.mem_of_getElem? (i := 1136) (by decide +kernel)) (List.mem_of_getElem? (i := 26) (by decide +kernel)) (List.mem_of_getElem? (i := 1134) (by decide +kernel)) rfl hs1 rfl rfl (by decide) (cat_cons rfl (cat_nil)) (Nat.le_of_ble_eq_true rfl) (PW.mono (kI_kN (fun r1 σ1 h => ?_)) h)
  refine pw_if_eq (tgt := 23) dc_Mod_receipt_16 (by decide) (fun hc => ?_) (fun hc => ?_)
  · have h := ite_t h hc
    refine pw_aload_n dc_Mod_receipt_23 rfl rfl ?_
    obtain ⟨hs2, h⟩ := h
    refine pw_getR (c := 11) (k := 5) (f := 709) dc_Mod_receipt_24 fl_Mod_25 rfl rfl hs2 ?_
    obtain ⟨b1, hb1, h⟩ := h
    refine PW.top (v' := .ref b1) (congrArg va_rf hb1) ?_
    refine pw_iload_n dc_Mod_receipt_27 rfl ?_
    obtain ⟨n1, hs3, h⟩ := h
    obtain ⟨hi1, h⟩ := h
    refine pw_iald dc_Mod_receipt_28 hs3 hi1 ?_
    exact pw_iret dc_Mod_receipt_29 rfl rfl h
  · have h := ite_f h hc
    refine pw_iconst (v := 0) dc_Mod_receipt_19 (by decide) ?_
    refine pw_goto (tgt := 29) dc_Mod_receipt_20 (by decide) ?_
    exact pw_iret dc_Mod_receipt_29 rfl rfl h
theorem dc_Mod_askFor_0 : decode M_Mod_askFor.2.1 0 = .ok (.aload_n 0, 1) := by decide +kernel
theorem dc_Mod_askFor_1 : decode M_Mod_askFor.2.1 1 = .ok (.iload_n 1, 1) := by decide +kernel
theorem dc_Mod_askFor_2 : decode M_Mod_askFor.2.1 2 = .ok (.invokestatic 160, 3) := by decide +kernel
theorem dc_Mod_askFor_5 : decode M_Mod_askFor.2.1 5 = .ok (.ifCond .eq 7, 3) := by decide +kernel
theorem dc_Mod_askFor_8 : decode M_Mod_askFor.2.1 8 = .ok (.iconst 0, 1) := by decide +kernel
theorem dc_Mod_askFor_9 : decode M_Mod_askFor.2.1 9 = .ok (.goto 4, 3) := by decide +kernel
theorem dc_Mod_askFor_12 : decode M_Mod_askFor.2.1 12 = .ok (.iconst 1, 1) := by decide +kernel
theorem dc_Mod_askFor_13 : decode M_Mod_askFor.2.1 13 = .ok (.invokevirtual 164, 3) := by decide +kernel
theorem dc_Mod_askFor_16 : decode M_Mod_askFor.2.1 16 = .ok (.ifCond .eq 5, 3) := by decide +kernel
theorem dc_Mod_askFor_19 : decode M_Mod_askFor.2.1 19 = .ok (.iconst 0, 1) := by decide +kernel
theorem dc_Mod_askFor_20 : decode M_Mod_askFor.2.1 20 = .ok (.ireturn, 1) := by decide +kernel
theorem dc_Mod_askFor_21 : decode M_Mod_askFor.2.1 21 = .ok (.aload_n 0, 1) := by decide +kernel
theorem dc_Mod_askFor_22 : decode M_Mod_askFor.2.1 22 = .ok (.getfield 28, 3) := by decide +kernel
theorem dc_Mod_askFor_25 : decode M_Mod_askFor.2.1 25 = .ok (.iload_n 1, 1) := by decide +kernel
theorem dc_Mod_askFor_26 : decode M_Mod_askFor.2.1 26 = .ok (.iaload, 1) := by decide +kernel
theorem dc_Mod_askFor_27 : decode M_Mod_askFor.2.1 27 = .ok (.ifCond .le 15, 3) := by decide +kernel
theorem dc_Mod_askFor_30 : decode M_Mod_askFor.2.1 30 = .ok (.aload_n 0, 1) := by decide +kernel
theorem dc_Mod_askFor_31 : decode M_Mod_askFor.2.1 31 = .ok (.getfield 31, 3) := by decide +kernel
theorem dc_Mod_askFor_34 : decode M_Mod_askFor.2.1 34 = .ok (.bipush 40, 2) := by decide +kernel
theorem dc_Mod_askFor_36 : decode M_Mod_askFor.2.1 36 = .ok (.iload_n 1, 1) := by decide +kernel
theorem dc_Mod_askFor_37 : decode M_Mod_askFor.2.1 37 = .ok (.imul, 1) := by decide +kernel
theorem dc_Mod_askFor_38 : decode M_Mod_askFor.2.1 38 = .ok (.iaload, 1) := by decide +kernel
theorem dc_Mod_askFor_39 : decode M_Mod_askFor.2.1 39 = .ok (.goto 4, 3) := by decide +kernel
theorem dc_Mod_askFor_42 : decode M_Mod_askFor.2.1 42 = .ok (.iconst 0, 1) := by decide +kernel
theorem dc_Mod_askFor_43 : decode M_Mod_askFor.2.1 43 = .ok (.ireturn, 1) := by decide +kernel
set_option maxRecDepth 20000 in
theorem e_Mod_askFor_0 {d : Nat} {σ : PH} {K : PO → PH → Prop} (x0 : Nat) (x1 : Int32) (h : PW d M_Mod_isChannel 0 [.int x1] [] σ (kI (fun r1 σ1 => (if r1 = 0 then PW (d + 1) M_Mod_askFor 13 [.ref x0, .int x1] [.int 1, .ref x0] σ1 K else PW (d + 1) M_Mod_askFor 13 [.ref x0, .int x1] [.int 0, .ref x0] σ1 K)) K)) : PW (d + 1) M_Mod_askFor 0 [.ref x0, .int x1] [] σ K := by
  refine pw_aload_n dc_Mod_askFor_0 rfl rfl ?_
  refine pw_iload_n dc_Mod_askFor_1 rfl ?_
  refine pw_callS (vs := [.int x1]) (st := [.ref x0]) dc_Mod_askFor_2 cq_Mod_isChannel (List.mem_of_getElem? (i := 1129) (by decide +kernel)) (List.mem_of_getElem? (i := 1128) (by decide +kernel)) rfl rfl (cat_cons rfl (cat_nil)) (Nat.le_of_ble_eq_true rfl) (PW.mono (kI_kN (fun r1 σ1 h => ?_)) h)
  refine pw_if_eq (tgt := 12) dc_Mod_askFor_5 (by decide) (fun hc => ?_) (fun hc => ?_)
  · have h := ite_t h hc
    refine pw_iconst (v := 1) dc_Mod_askFor_12 (by decide) ?_
    exact h
  · have h := ite_f h hc
    refine pw_iconst (v := 0) dc_Mod_askFor_8 (by decide) ?_
    refine pw_goto (tgt := 13) dc_Mod_askFor_9 (by decide) ?_
    exact h
set_option maxRecDepth 20000 in
theorem e_Mod_askFor_13 {d : Nat} {σ : PH} {K : PO → PH → Prop} (x0 : Nat) (x1 : Int32) (y0 : Int32) (y1 : Nat) (h : sh σ y1 = (1, 11) ∧ PW d M_Mod_refused 0 [.ref y1, .int y0] [] σ (kI (fun r1 σ1 => (if r1 = 0 then sh σ1 x0 = (1, 11) ∧ (∃ b1 : Nat, gR σ1 710 x0 = some b1 ∧ (∃ n1 : Nat, sh σ1 b1 = (2, n1) ∧ vp_in x1 n1 ∧ (if (eI σ1 b1 (ix x1)) ≤ 0 then K (.inl (some (.int 0))) σ1 else (∃ b2 : Nat, gR σ1 711 x0 = some b2 ∧ (∃ n2 : Nat, sh σ1 b2 = (2, n2) ∧ vp_in (40 * x1) n2 ∧ K (.inl (some (.int (eI σ1 b2 (ix (40 * x1)))))) σ1))))) else K (.inl (some (.int 0))) σ1)) K)) : PW (d + 1) M_Mod_askFor 13 [.ref x0, .int x1] [.int y0, .ref y1] σ K := by
  obtain ⟨hs1, h⟩ := h
  refine pw_callV (vs := [.int y0]) (st := []) (b := y1) (cn := 11) dc_Mod_askFor_13 cq_Mod_refused (List.mem_of_getElem? (i := 1136) (by decide +kernel)) (List.mem_of_getElem? (i := 26) (by decide +kernel)) (List.mem_of_getElem? (i := 1134) (by decide +kernel)) rfl hs1 rfl rfl (by decide) (cat_cons rfl (cat_nil)) (Nat.le_of_ble_eq_true rfl) (PW.mono (kI_kN (fun r1 σ1 h => ?_)) h)
  refine pw_if_eq (tgt := 21) dc_Mod_askFor_16 (by decide) (fun hc => ?_) (fun hc => ?_)
  · have h := ite_t h hc
    refine pw_aload_n dc_Mod_askFor_21 rfl rfl ?_
    obtain ⟨hs2, h⟩ := h
    refine pw_getR (c := 11) (k := 6) (f := 710) dc_Mod_askFor_22 fl_Mod_28 rfl rfl hs2 ?_
    obtain ⟨b1, hb1, h⟩ := h
    refine PW.top (v' := .ref b1) (congrArg va_rf hb1) ?_
    refine pw_iload_n dc_Mod_askFor_25 rfl ?_
    obtain ⟨n1, hs3, h⟩ := h
    obtain ⟨hi1, h⟩ := h
    refine pw_iald dc_Mod_askFor_26 hs3 hi1 ?_
    refine pw_if_le (tgt := 42) dc_Mod_askFor_27 (by decide) (fun hc => ?_) (fun hc => ?_)
    · have h := ite_t h hc
      refine pw_iconst (v := 0) dc_Mod_askFor_42 (by decide) ?_
      exact pw_iret dc_Mod_askFor_43 rfl rfl h
    · have h := ite_f h hc
      refine pw_aload_n dc_Mod_askFor_30 rfl rfl ?_
      refine pw_getR (c := 11) (k := 7) (f := 711) dc_Mod_askFor_31 fl_Mod_31 rfl rfl hs2 ?_
      obtain ⟨b2, hb2, h⟩ := h
      refine PW.top (v' := .ref b2) (congrArg va_rf hb2) ?_
      refine pw_bipush (v := 40) dc_Mod_askFor_34 (by decide) ?_
      refine pw_iload_n dc_Mod_askFor_36 rfl ?_
      refine pw_imul dc_Mod_askFor_37 ?_
      obtain ⟨n2, hs4, h⟩ := h
      obtain ⟨hi2, h⟩ := h
      refine pw_iald dc_Mod_askFor_38 hs4 hi2 ?_
      refine pw_goto (tgt := 43) dc_Mod_askFor_39 (by decide) ?_
      exact pw_iret dc_Mod_askFor_43 rfl rfl h
  · have h := ite_f h hc
    refine pw_iconst (v := 0) dc_Mod_askFor_19 (by decide) ?_
    exact pw_iret dc_Mod_askFor_20 rfl rfl h
theorem dc_Mod_routeAt_0 : decode M_Mod_routeAt.2.1 0 = .ok (.iconst (-1), 1) := by decide +kernel
theorem dc_Mod_routeAt_1 : decode M_Mod_routeAt.2.1 1 = .ok (.istore_n 2, 1) := by decide +kernel
theorem dc_Mod_routeAt_2 : decode M_Mod_routeAt.2.1 2 = .ok (.iconst 0, 1) := by decide +kernel
theorem dc_Mod_routeAt_3 : decode M_Mod_routeAt.2.1 3 = .ok (.istore_n 3, 1) := by decide +kernel
theorem dc_Mod_routeAt_4 : decode M_Mod_routeAt.2.1 4 = .ok (.iload_n 3, 1) := by decide +kernel
theorem dc_Mod_routeAt_5 : decode M_Mod_routeAt.2.1 5 = .ok (.aload_n 0, 1) := by decide +kernel
theorem dc_Mod_routeAt_6 : decode M_Mod_routeAt.2.1 6 = .ok (.getfield 263, 3) := by decide +kernel
theorem dc_Mod_routeAt_9 : decode M_Mod_routeAt.2.1 9 = .ok (.if_icmp .ge 25, 3) := by decide +kernel
theorem dc_Mod_routeAt_12 : decode M_Mod_routeAt.2.1 12 = .ok (.aload_n 0, 1) := by decide +kernel
theorem dc_Mod_routeAt_13 : decode M_Mod_routeAt.2.1 13 = .ok (.getfield 34, 3) := by decide +kernel
theorem dc_Mod_routeAt_16 : decode M_Mod_routeAt.2.1 16 = .ok (.iload_n 3, 1) := by decide +kernel
theorem dc_Mod_routeAt_17 : decode M_Mod_routeAt.2.1 17 = .ok (.iaload, 1) := by decide +kernel
theorem dc_Mod_routeAt_18 : decode M_Mod_routeAt.2.1 18 = .ok (.iload_n 1, 1) := by decide +kernel
theorem dc_Mod_routeAt_19 : decode M_Mod_routeAt.2.1 19 = .ok (.if_icmp .ne 7, 3) := by decide +kernel
theorem dc_Mod_routeAt_22 : decode M_Mod_routeAt.2.1 22 = .ok (.iload_n 3, 1) := by decide +kernel
theorem dc_Mod_routeAt_23 : decode M_Mod_routeAt.2.1 23 = .ok (.goto 4, 3) := by decide +kernel
theorem dc_Mod_routeAt_26 : decode M_Mod_routeAt.2.1 26 = .ok (.iload_n 2, 1) := by decide +kernel
theorem dc_Mod_routeAt_27 : decode M_Mod_routeAt.2.1 27 = .ok (.istore_n 2, 1) := by decide +kernel
theorem dc_Mod_routeAt_28 : decode M_Mod_routeAt.2.1 28 = .ok (.iinc 3 1, 3) := by decide +kernel
theorem dc_Mod_routeAt_31 : decode M_Mod_routeAt.2.1 31 = .ok (.goto (-27), 3) := by decide +kernel
theorem dc_Mod_routeAt_34 : decode M_Mod_routeAt.2.1 34 = .ok (.iload_n 2, 1) := by decide +kernel
theorem dc_Mod_routeAt_35 : decode M_Mod_routeAt.2.1 35 = .ok (.ireturn, 1) := by decide +kernel
set_option maxRecDepth 20000 in
theorem e_Mod_routeAt_0 {d : Nat} {σ : PH} {K : PO → PH → Prop} (x0 : Nat) (x1 : Int32) (h : PW d M_Mod_routeAt 4 [.ref x0, .int x1, .int ((-1)), .int 0] [] σ K) : PW d M_Mod_routeAt 0 [.ref x0, .int x1, uu, uu] [] σ K := by
  refine pw_iconst (v := (-1)) dc_Mod_routeAt_0 (by decide) ?_
  refine pw_istore_n dc_Mod_routeAt_1 (by decide) ?_
  refine pw_iconst (v := 0) dc_Mod_routeAt_2 (by decide) ?_
  refine pw_istore_n dc_Mod_routeAt_3 (by decide) ?_
  exact h
set_option maxRecDepth 20000 in
theorem e_Mod_routeAt_4 {d : Nat} {σ : PH} {K : PO → PH → Prop} (x0 : Nat) (x1 : Int32) (x2 : Int32) (x3 : Int32) (h : sh σ x0 = (1, 11) ∧ (if (gI σ 712 x0) ≤ x3 then K (.inl (some (.int x2))) σ else (∃ b1 : Nat, gR σ 713 x0 = some b1 ∧ (∃ n1 : Nat, sh σ b1 = (2, n1) ∧ vp_in x3 n1 ∧ (if (eI σ b1 (ix x3)) = x1 then PW d M_Mod_routeAt 27 [.ref x0, .int x1, uu, .int x3] [.int x3] σ K else PW d M_Mod_routeAt 27 [.ref x0, .int x1, uu, .int x3] [.int x2] σ K))))) : PW d M_Mod_routeAt 4 [.ref x0, .int x1, .int x2, .int x3] [] σ K := by
  refine pw_iload_n dc_Mod_routeAt_4 rfl ?_
  refine pw_aload_n dc_Mod_routeAt_5 rfl rfl ?_
  obtain ⟨hs1, h⟩ := h
  refine pw_getI (c := 11) (k := 8) (f := 712) dc_Mod_routeAt_6 fl_Mod_263 rfl rfl hs1 ?_
  refine pw_icmp_ge (tgt := 34) dc_Mod_routeAt_9 (by decide) (fun hc => ?_) (fun hc => ?_)
  · have h := ite_t h hc
    refine pw_iload_n dc_Mod_routeAt_34 rfl ?_
    exact pw_iret dc_Mod_routeAt_35 rfl rfl h
  · have h := ite_f h hc
    refine pw_aload_n dc_Mod_routeAt_12 rfl rfl ?_
    refine pw_getR (c := 11) (k := 9) (f := 713) dc_Mod_routeAt_13 fl_Mod_34 rfl rfl hs1 ?_
    obtain ⟨b1, hb1, h⟩ := h
    refine PW.top (v' := .ref b1) (congrArg va_rf hb1) ?_
    refine pw_iload_n dc_Mod_routeAt_16 rfl ?_
    obtain ⟨n1, hs2, h⟩ := h
    obtain ⟨hi1, h⟩ := h
    refine pw_iald dc_Mod_routeAt_17 hs2 hi1 ?_
    refine pw_iload_n dc_Mod_routeAt_18 rfl ?_
    refine pw_icmp_ne (tgt := 26) dc_Mod_routeAt_19 (by decide) (fun hc => ?_) (fun hc => ?_)
    · have h := ite_f h hc
      refine pw_iload_n dc_Mod_routeAt_26 rfl ?_
      refine PW.drop (ls' := [.ref x0, .int x1, uu, .int x3]) ⟨Or.inl rfl, Or.inl rfl, Or.inr rfl, Or.inl rfl, trivial⟩ ?_
      exact h
    · have h := ite_t h hc
      refine pw_iload_n dc_Mod_routeAt_22 rfl ?_
      refine pw_goto (tgt := 27) dc_Mod_routeAt_23 (by decide) ?_
      refine PW.drop (ls' := [.ref x0, .int x1, uu, .int x3]) ⟨Or.inl rfl, Or.inl rfl, Or.inr rfl, Or.inl rfl, trivial⟩ ?_
      exact h
set_option maxRecDepth 20000 in
theorem e_Mod_routeAt_27 {d : Nat} {σ : PH} {K : PO → PH → Prop} (x0 : Nat) (x1 : Int32) (x3 : Int32) (y0 : Int32) (h : PW d M_Mod_routeAt 4 [.ref x0, .int x1, .int y0, .int (x3 + 1)] [] σ K) : PW d M_Mod_routeAt 27 [.ref x0, .int x1, uu, .int x3] [.int y0] σ K := by
  refine pw_istore_n dc_Mod_routeAt_27 (by decide) ?_
  refine pw_iincv (v := 1) dc_Mod_routeAt_28 (by decide) rfl (by decide) ?_
  refine pw_goto (tgt := 4) dc_Mod_routeAt_31 (by decide) ?_
  exact h
theorem dc_Mod_isCode_0 : decode M_Mod_isCode.2.1 0 = .ok (.iload_n 0, 1) := by decide +kernel
theorem dc_Mod_isCode_1 : decode M_Mod_isCode.2.1 1 = .ok (.iconst 0, 1) := by decide +kernel
theorem dc_Mod_isCode_2 : decode M_Mod_isCode.2.1 2 = .ok (.ldc_w 266, 3) := by decide +kernel
theorem dc_Mod_isCode_5 : decode M_Mod_isCode.2.1 5 = .ok (.invokestatic 140, 3) := by decide +kernel
theorem dc_Mod_isCode_8 : decode M_Mod_isCode.2.1 8 = .ok (.ireturn, 1) := by decide +kernel
set_option maxRecDepth 20000 in
theorem e_Mod_isCode_0 {d : Nat} {σ : PH} {K : PO → PH → Prop} (x0 : Int32) (h : PW d M_Mod_isIn 0 [.int x0, .int 0, .int 456975] [] σ (kI (fun r1 σ1 => bo r1 ∧ K (.inl (some (.int r1))) σ1) K)) : PW (d + 1) M_Mod_isCode 0 [.int x0] [] σ K := by
  refine pw_iload_n dc_Mod_isCode_0 rfl ?_
  refine pw_iconst (v := 0) dc_Mod_isCode_1 (by decide) ?_
  refine pw_ldc_w (v := 456975) dc_Mod_isCode_2 (List.mem_of_getElem? (i := 1253) (by decide +kernel)) ?_
  refine pw_callS (vs := [.int x0, .int 0, .int 456975]) (st := []) dc_Mod_isCode_5 cq_Mod_isIn (List.mem_of_getElem? (i := 1132) (by decide +kernel)) (List.mem_of_getElem? (i := 1131) (by decide +kernel)) rfl rfl (cat_cons rfl (cat_cons rfl (cat_cons rfl (cat_nil)))) (Nat.le_of_ble_eq_true rfl) (PW.mono (kI_kN (fun r1 σ1 h => ?_)) h)
  exact pw_iret dc_Mod_isCode_8 rfl (bo_nar h.1) h.2
theorem dc_Mod_addRoute_0 : decode M_Mod_addRoute.2.1 0 = .ok (.aload_n 0, 1) := by decide +kernel
theorem dc_Mod_addRoute_1 : decode M_Mod_addRoute.2.1 1 = .ok (.getfield 34, 3) := by decide +kernel
theorem dc_Mod_addRoute_4 : decode M_Mod_addRoute.2.1 4 = .ok (.aload_n 0, 1) := by decide +kernel
theorem dc_Mod_addRoute_5 : decode M_Mod_addRoute.2.1 5 = .ok (.getfield 263, 3) := by decide +kernel
theorem dc_Mod_addRoute_8 : decode M_Mod_addRoute.2.1 8 = .ok (.iload_n 1, 1) := by decide +kernel
theorem dc_Mod_addRoute_9 : decode M_Mod_addRoute.2.1 9 = .ok (.iastore, 1) := by decide +kernel
theorem dc_Mod_addRoute_10 : decode M_Mod_addRoute.2.1 10 = .ok (.aload_n 0, 1) := by decide +kernel
theorem dc_Mod_addRoute_11 : decode M_Mod_addRoute.2.1 11 = .ok (.getfield 37, 3) := by decide +kernel
theorem dc_Mod_addRoute_14 : decode M_Mod_addRoute.2.1 14 = .ok (.aload_n 0, 1) := by decide +kernel
theorem dc_Mod_addRoute_15 : decode M_Mod_addRoute.2.1 15 = .ok (.getfield 263, 3) := by decide +kernel
theorem dc_Mod_addRoute_18 : decode M_Mod_addRoute.2.1 18 = .ok (.iload_n 2, 1) := by decide +kernel
theorem dc_Mod_addRoute_19 : decode M_Mod_addRoute.2.1 19 = .ok (.iastore, 1) := by decide +kernel
theorem dc_Mod_addRoute_20 : decode M_Mod_addRoute.2.1 20 = .ok (.aload_n 0, 1) := by decide +kernel
theorem dc_Mod_addRoute_21 : decode M_Mod_addRoute.2.1 21 = .ok (.getfield 46, 3) := by decide +kernel
theorem dc_Mod_addRoute_24 : decode M_Mod_addRoute.2.1 24 = .ok (.aload_n 0, 1) := by decide +kernel
theorem dc_Mod_addRoute_25 : decode M_Mod_addRoute.2.1 25 = .ok (.getfield 263, 3) := by decide +kernel
theorem dc_Mod_addRoute_28 : decode M_Mod_addRoute.2.1 28 = .ok (.iconst 0, 1) := by decide +kernel
theorem dc_Mod_addRoute_29 : decode M_Mod_addRoute.2.1 29 = .ok (.iastore, 1) := by decide +kernel
theorem dc_Mod_addRoute_30 : decode M_Mod_addRoute.2.1 30 = .ok (.aload_n 0, 1) := by decide +kernel
theorem dc_Mod_addRoute_31 : decode M_Mod_addRoute.2.1 31 = .ok (.dup, 1) := by decide +kernel
theorem dc_Mod_addRoute_32 : decode M_Mod_addRoute.2.1 32 = .ok (.getfield 263, 3) := by decide +kernel
theorem dc_Mod_addRoute_35 : decode M_Mod_addRoute.2.1 35 = .ok (.iconst 1, 1) := by decide +kernel
theorem dc_Mod_addRoute_36 : decode M_Mod_addRoute.2.1 36 = .ok (.iadd, 1) := by decide +kernel
theorem dc_Mod_addRoute_37 : decode M_Mod_addRoute.2.1 37 = .ok (.putfield 263, 3) := by decide +kernel
theorem dc_Mod_addRoute_40 : decode M_Mod_addRoute.2.1 40 = .ok (.aload_n 0, 1) := by decide +kernel
theorem dc_Mod_addRoute_41 : decode M_Mod_addRoute.2.1 41 = .ok (.getfield 263, 3) := by decide +kernel
theorem dc_Mod_addRoute_44 : decode M_Mod_addRoute.2.1 44 = .ok (.iconst 1, 1) := by decide +kernel
theorem dc_Mod_addRoute_45 : decode M_Mod_addRoute.2.1 45 = .ok (.isub, 1) := by decide +kernel
theorem dc_Mod_addRoute_46 : decode M_Mod_addRoute.2.1 46 = .ok (.ireturn, 1) := by decide +kernel
set_option maxRecDepth 20000 in
theorem e_Mod_addRoute_0 {d : Nat} {σ : PH} {K : PO → PH → Prop} (x0 : Nat) (x1 : Int32) (x2 : Int32) (h : sh σ x0 = (1, 11) ∧ (∃ b1 : Nat, gR σ 713 x0 = some b1 ∧ (∃ n1 : Nat, sh σ b1 = (2, n1) ∧ vp_in (gI σ 712 x0) n1 ∧ (∀ σ1 : PH, σ1 = uI σ b1 (ix (gI σ 712 x0)) x1 → sh σ1 x0 = (1, 11) ∧ (∃ b2 : Nat, gR σ1 714 x0 = some b2 ∧ (∃ n2 : Nat, sh σ1 b2 = (2, n2) ∧ vp_in (gI σ1 712 x0) n2 ∧ (∀ σ2 : PH, σ2 = uI σ1 b2 (ix (gI σ1 712 x0)) x2 → sh σ2 x0 = (1, 11) ∧ (∃ b3 : Nat, gR σ2 717 x0 = some b3 ∧ (∃ n3 : Nat, sh σ2 b3 = (2, n3) ∧ vp_in (gI σ2 712 x0) n3 ∧ (∀ σ3 : PH, σ3 = uI σ2 b3 (ix (gI σ2 712 x0)) 0 → sh σ3 x0 = (1, 11) ∧ (∀ σ4 : PH, σ4 = pI σ3 712 x0 ((gI σ3 712 x0) + 1) → sh σ4 x0 = (1, 11) ∧ K (.inl (some (.int ((gI σ4 712 x0) - 1)))) σ4))))))))))) : PW d M_Mod_addRoute 0 [.ref x0, .int x1, .int x2] [] σ K := by
  refine pw_aload_n dc_Mod_addRoute_0 rfl rfl ?_
  obtain ⟨hs1, h⟩ := h
  refine pw_getR (c := 11) (k := 9) (f := 713) dc_Mod_addRoute_1 fl_Mod_34 rfl rfl hs1 ?_
  obtain ⟨b1, hb1, h⟩ := h
  refine PW.top (v' := .ref b1) (congrArg va_rf hb1) ?_
  refine pw_aload_n dc_Mod_addRoute_4 rfl rfl ?_
  refine pw_getI (c := 11) (k := 8) (f := 712) dc_Mod_addRoute_5 fl_Mod_263 rfl rfl hs1 ?_
  refine pw_iload_n dc_Mod_addRoute_8 rfl ?_
  obtain ⟨n1, hs2, h⟩ := h
  obtain ⟨hi1, h⟩ := h
  have h := h _ rfl
  refine pw_iast dc_Mod_addRoute_9 hs2 hi1 ?_
  refine pw_aload_n dc_Mod_addRoute_10 rfl rfl ?_
  obtain ⟨hs3, h⟩ := h
  refine pw_getR (c := 11) (k := 10) (f := 714) dc_Mod_addRoute_11 fl_Mod_37 rfl rfl hs3 ?_
  obtain ⟨b2, hb2, h⟩ := h
  refine PW.top (v' := .ref b2) (congrArg va_rf hb2) ?_
  refine pw_aload_n dc_Mod_addRoute_14 rfl rfl ?_
  refine pw_getI (c := 11) (k := 8) (f := 712) dc_Mod_addRoute_15 fl_Mod_263 rfl rfl hs3 ?_
  refine pw_iload_n dc_Mod_addRoute_18 rfl ?_
  obtain ⟨n2, hs4, h⟩ := h
  obtain ⟨hi2, h⟩ := h
  have h := h _ rfl
  refine pw_iast dc_Mod_addRoute_19 hs4 hi2 ?_
  refine pw_aload_n dc_Mod_addRoute_20 rfl rfl ?_
  obtain ⟨hs5, h⟩ := h
  refine pw_getR (c := 11) (k := 13) (f := 717) dc_Mod_addRoute_21 fl_Mod_46 rfl rfl hs5 ?_
  obtain ⟨b3, hb3, h⟩ := h
  refine PW.top (v' := .ref b3) (congrArg va_rf hb3) ?_
  refine pw_aload_n dc_Mod_addRoute_24 rfl rfl ?_
  refine pw_getI (c := 11) (k := 8) (f := 712) dc_Mod_addRoute_25 fl_Mod_263 rfl rfl hs5 ?_
  refine pw_iconst (v := 0) dc_Mod_addRoute_28 (by decide) ?_
  obtain ⟨n3, hs6, h⟩ := h
  obtain ⟨hi3, h⟩ := h
  have h := h _ rfl
  refine pw_iast dc_Mod_addRoute_29 hs6 hi3 ?_
  refine pw_aload_n dc_Mod_addRoute_30 rfl rfl ?_
  refine pw_dup dc_Mod_addRoute_31 rfl ?_
  obtain ⟨hs7, h⟩ := h
  refine pw_getI (c := 11) (k := 8) (f := 712) dc_Mod_addRoute_32 fl_Mod_263 rfl rfl hs7 ?_
  refine pw_iconst (v := 1) dc_Mod_addRoute_35 (by decide) ?_
  refine pw_iadd dc_Mod_addRoute_36 ?_
  have h := h _ rfl
  refine pw_putI (c := 11) (k := 8) (f := 712) dc_Mod_addRoute_37 fl_Mod_263 (Or.inl rfl) rfl rfl hs7 ?_
  refine pw_aload_n dc_Mod_addRoute_40 rfl rfl ?_
  obtain ⟨hs8, h⟩ := h
  refine pw_getI (c := 11) (k := 8) (f := 712) dc_Mod_addRoute_41 fl_Mod_263 rfl rfl hs8 ?_
  refine pw_iconst (v := 1) dc_Mod_addRoute_44 (by decide) ?_
  refine pw_isub dc_Mod_addRoute_45 ?_
  exact pw_iret dc_Mod_addRoute_46 rfl rfl h
theorem dc_Mod_route_0 : decode M_Mod_route.2.1 0 = .ok (.iload_n 1, 1) := by decide +kernel
theorem dc_Mod_route_1 : decode M_Mod_route.2.1 1 = .ok (.invokestatic 267, 3) := by decide +kernel
theorem dc_Mod_route_4 : decode M_Mod_route.2.1 4 = .ok (.ifCond .eq 21, 3) := by decide +kernel
theorem dc_Mod_route_7 : decode M_Mod_route.2.1 7 = .ok (.iload_n 2, 1) := by decide +kernel
theorem dc_Mod_route_8 : decode M_Mod_route.2.1 8 = .ok (.invokestatic 160, 3) := by decide +kernel
theorem dc_Mod_route_11 : decode M_Mod_route.2.1 11 = .ok (.ifCond .eq 14, 3) := by decide +kernel
theorem dc_Mod_route_14 : decode M_Mod_route.2.1 14 = .ok (.iload_n 3, 1) := by decide +kernel
theorem dc_Mod_route_15 : decode M_Mod_route.2.1 15 = .ok (.invokestatic 160, 3) := by decide +kernel
theorem dc_Mod_route_18 : decode M_Mod_route.2.1 18 = .ok (.ifCond .eq 7, 3) := by decide +kernel
theorem dc_Mod_route_21 : decode M_Mod_route.2.1 21 = .ok (.iconst 1, 1) := by decide +kernel
theorem dc_Mod_route_22 : decode M_Mod_route.2.1 22 = .ok (.goto 4, 3) := by decide +kernel
theorem dc_Mod_route_25 : decode M_Mod_route.2.1 25 = .ok (.iconst 0, 1) := by decide +kernel
theorem dc_Mod_route_26 : decode M_Mod_route.2.1 26 = .ok (.istore 4, 2) := by decide +kernel
theorem dc_Mod_route_28 : decode M_Mod_route.2.1 28 = .ok (.iload 4, 2) := by decide +kernel
theorem dc_Mod_route_30 : decode M_Mod_route.2.1 30 = .ok (.ifCond .eq 11, 3) := by decide +kernel
theorem dc_Mod_route_33 : decode M_Mod_route.2.1 33 = .ok (.aload_n 0, 1) := by decide +kernel
theorem dc_Mod_route_34 : decode M_Mod_route.2.1 34 = .ok (.iload_n 1, 1) := by decide +kernel
theorem dc_Mod_route_35 : decode M_Mod_route.2.1 35 = .ok (.invokevirtual 270, 3) := by decide +kernel
theorem dc_Mod_route_38 : decode M_Mod_route.2.1 38 = .ok (.goto 4, 3) := by decide +kernel
theorem dc_Mod_route_41 : decode M_Mod_route.2.1 41 = .ok (.iconst (-1), 1) := by decide +kernel
theorem dc_Mod_route_42 : decode M_Mod_route.2.1 42 = .ok (.istore 5, 2) := by decide +kernel
theorem dc_Mod_route_44 : decode M_Mod_route.2.1 44 = .ok (.iload 4, 2) := by decide +kernel
theorem dc_Mod_route_46 : decode M_Mod_route.2.1 46 = .ok (.ifCond .eq 23, 3) := by decide +kernel
theorem dc_Mod_route_49 : decode M_Mod_route.2.1 49 = .ok (.iload 5, 2) := by decide +kernel
theorem dc_Mod_route_51 : decode M_Mod_route.2.1 51 = .ok (.ifCond .lt 14, 3) := by decide +kernel
theorem dc_Mod_route_54 : decode M_Mod_route.2.1 54 = .ok (.aload_n 0, 1) := by decide +kernel
theorem dc_Mod_route_55 : decode M_Mod_route.2.1 55 = .ok (.getfield 37, 3) := by decide +kernel
theorem dc_Mod_route_58 : decode M_Mod_route.2.1 58 = .ok (.iload 5, 2) := by decide +kernel
theorem dc_Mod_route_60 : decode M_Mod_route.2.1 60 = .ok (.iaload, 1) := by decide +kernel
theorem dc_Mod_route_61 : decode M_Mod_route.2.1 61 = .ok (.iconst 1, 1) := by decide +kernel
theorem dc_Mod_route_62 : decode M_Mod_route.2.1 62 = .ok (.if_icmp .ne 7, 3) := by decide +kernel
theorem dc_Mod_route_65 : decode M_Mod_route.2.1 65 = .ok (.iconst 1, 1) := by decide +kernel
theorem dc_Mod_route_66 : decode M_Mod_route.2.1 66 = .ok (.goto 4, 3) := by decide +kernel
theorem dc_Mod_route_69 : decode M_Mod_route.2.1 69 = .ok (.iconst 0, 1) := by decide +kernel
theorem dc_Mod_route_70 : decode M_Mod_route.2.1 70 = .ok (.istore 4, 2) := by decide +kernel
theorem dc_Mod_route_72 : decode M_Mod_route.2.1 72 = .ok (.aload_n 0, 1) := by decide +kernel
theorem dc_Mod_route_73 : decode M_Mod_route.2.1 73 = .ok (.iload 4, 2) := by decide +kernel
theorem dc_Mod_route_75 : decode M_Mod_route.2.1 75 = .ok (.ifCond .ne 7, 3) := by decide +kernel
theorem dc_Mod_route_78 : decode M_Mod_route.2.1 78 = .ok (.iconst 1, 1) := by decide +kernel
theorem dc_Mod_route_79 : decode M_Mod_route.2.1 79 = .ok (.goto 22, 3) := by decide +kernel
theorem dc_Mod_route_82 : decode M_Mod_route.2.1 82 = .ok (.iload 5, 2) := by decide +kernel
theorem dc_Mod_route_84 : decode M_Mod_route.2.1 84 = .ok (.ifCond .ge 16, 3) := by decide +kernel
theorem dc_Mod_route_87 : decode M_Mod_route.2.1 87 = .ok (.aload_n 0, 1) := by decide +kernel
theorem dc_Mod_route_88 : decode M_Mod_route.2.1 88 = .ok (.getfield 263, 3) := by decide +kernel
theorem dc_Mod_route_91 : decode M_Mod_route.2.1 91 = .ok (.bipush 12, 2) := by decide +kernel
theorem dc_Mod_route_93 : decode M_Mod_route.2.1 93 = .ok (.if_icmp .ne 7, 3) := by decide +kernel
theorem dc_Mod_route_96 : decode M_Mod_route.2.1 96 = .ok (.iconst 2, 1) := by decide +kernel
theorem dc_Mod_route_97 : decode M_Mod_route.2.1 97 = .ok (.goto 4, 3) := by decide +kernel
theorem dc_Mod_route_100 : decode M_Mod_route.2.1 100 = .ok (.iconst 0, 1) := by decide +kernel
theorem dc_Mod_route_101 : decode M_Mod_route.2.1 101 = .ok (.invokevirtual 164, 3) := by decide +kernel
theorem dc_Mod_route_104 : decode M_Mod_route.2.1 104 = .ok (.ifCond .eq 4, 3) := by decide +kernel
theorem dc_Mod_route_107 : decode M_Mod_route.2.1 107 = .ok (.return_, 1) := by decide +kernel
theorem dc_Mod_route_108 : decode M_Mod_route.2.1 108 = .ok (.iload 5, 2) := by decide +kernel
theorem dc_Mod_route_110 : decode M_Mod_route.2.1 110 = .ok (.ifCond .ge 12, 3) := by decide +kernel
theorem dc_Mod_route_113 : decode M_Mod_route.2.1 113 = .ok (.aload_n 0, 1) := by decide +kernel
theorem dc_Mod_route_114 : decode M_Mod_route.2.1 114 = .ok (.iload_n 1, 1) := by decide +kernel
theorem dc_Mod_route_115 : decode M_Mod_route.2.1 115 = .ok (.iconst 1, 1) := by decide +kernel
theorem dc_Mod_route_116 : decode M_Mod_route.2.1 116 = .ok (.invokevirtual 273, 3) := by decide +kernel
theorem dc_Mod_route_119 : decode M_Mod_route.2.1 119 = .ok (.goto 5, 3) := by decide +kernel
theorem dc_Mod_route_122 : decode M_Mod_route.2.1 122 = .ok (.iload 5, 2) := by decide +kernel
theorem dc_Mod_route_124 : decode M_Mod_route.2.1 124 = .ok (.istore 5, 2) := by decide +kernel
theorem dc_Mod_route_126 : decode M_Mod_route.2.1 126 = .ok (.aload_n 0, 1) := by decide +kernel
theorem dc_Mod_route_127 : decode M_Mod_route.2.1 127 = .ok (.getfield 40, 3) := by decide +kernel
theorem dc_Mod_route_130 : decode M_Mod_route.2.1 130 = .ok (.iload 5, 2) := by decide +kernel
theorem dc_Mod_route_132 : decode M_Mod_route.2.1 132 = .ok (.iload_n 2, 1) := by decide +kernel
theorem dc_Mod_route_133 : decode M_Mod_route.2.1 133 = .ok (.iastore, 1) := by decide +kernel
theorem dc_Mod_route_134 : decode M_Mod_route.2.1 134 = .ok (.aload_n 0, 1) := by decide +kernel
theorem dc_Mod_route_135 : decode M_Mod_route.2.1 135 = .ok (.getfield 43, 3) := by decide +kernel
theorem dc_Mod_route_138 : decode M_Mod_route.2.1 138 = .ok (.iload 5, 2) := by decide +kernel
theorem dc_Mod_route_140 : decode M_Mod_route.2.1 140 = .ok (.iload_n 3, 1) := by decide +kernel
theorem dc_Mod_route_141 : decode M_Mod_route.2.1 141 = .ok (.iastore, 1) := by decide +kernel
theorem dc_Mod_route_142 : decode M_Mod_route.2.1 142 = .ok (.return_, 1) := by decide +kernel
set_option maxRecDepth 20000 in
theorem e_Mod_route_0 {d : Nat} {σ : PH} {K : PO → PH → Prop} (x0 : Nat) (x1 : Int32) (x2 : Int32) (x3 : Int32) (h : PW d M_Mod_isCode 0 [.int x1] [] σ (kI (fun r1 σ1 => (if r1 = 0 then PW (d + 1) M_Mod_route 25 [.ref x0, .int x1, .int x2, .int x3, uu, uu] [] σ1 K else PW d M_Mod_isChannel 0 [.int x2] [] σ1 (kI (fun r2 σ2 => (if r2 = 0 then PW (d + 1) M_Mod_route 25 [.ref x0, .int x1, .int x2, .int x3, uu, uu] [] σ2 K else PW d M_Mod_isChannel 0 [.int x3] [] σ2 (kI (fun r3 σ3 => (if r3 = 0 then PW (d + 1) M_Mod_route 25 [.ref x0, .int x1, .int x2, .int x3, uu, uu] [] σ3 K else PW (d + 1) M_Mod_route 26 [.ref x0, .int x1, .int x2, .int x3, uu, uu] [.int 1] σ3 K)) K))) K))) K)) : PW (d + 1) M_Mod_route 0 [.ref x0, .int x1, .int x2, .int x3, uu, uu] [] σ K := by
  refine pw_iload_n dc_Mod_route_0 rfl ?_
  refine pw_callS (vs := [.int x1]) (st := []) dc_Mod_route_1 cq_Mod_isCode (List.mem_of_getElem? (i := 1251) (by decide +kernel)) (List.mem_of_getElem? (i := 1250) (by decide +kernel)) rfl rfl (cat_cons rfl (cat_nil)) (Nat.le_of_ble_eq_true rfl) (PW.mono (kI_kN (fun r1 σ1 h => ?_)) h)
  refine pw_if_eq (tgt := 25) dc_Mod_route_4 (by decide) (fun hc => ?_) (fun hc => ?_)
  · have h := ite_t h hc
    exact h
  · have h := ite_f h hc
    refine pw_iload_n dc_Mod_route_7 rfl ?_
    refine pw_callS (vs := [.int x2]) (st := []) dc_Mod_route_8 cq_Mod_isChannel (List.mem_of_getElem? (i := 1129) (by decide +kernel)) (List.mem_of_getElem? (i := 1128) (by decide +kernel)) rfl rfl (cat_cons rfl (cat_nil)) (Nat.le_of_ble_eq_true rfl) (PW.mono (kI_kN (fun r2 σ2 h => ?_)) h)
    refine pw_if_eq (tgt := 25) dc_Mod_route_11 (by decide) (fun hc => ?_) (fun hc => ?_)
    · have h := ite_t h hc
      exact h
    · have h := ite_f h hc
      refine pw_iload_n dc_Mod_route_14 rfl ?_
      refine pw_callS (vs := [.int x3]) (st := []) dc_Mod_route_15 cq_Mod_isChannel (List.mem_of_getElem? (i := 1129) (by decide +kernel)) (List.mem_of_getElem? (i := 1128) (by decide +kernel)) rfl rfl (cat_cons rfl (cat_nil)) (Nat.le_of_ble_eq_true rfl) (PW.mono (kI_kN (fun r3 σ3 h => ?_)) h)
      refine pw_if_eq (tgt := 25) dc_Mod_route_18 (by decide) (fun hc => ?_) (fun hc => ?_)
      · have h := ite_t h hc
        exact h
      · have h := ite_f h hc
        refine pw_iconst (v := 1) dc_Mod_route_21 (by decide) ?_
        refine pw_goto (tgt := 26) dc_Mod_route_22 (by decide) ?_
        exact h
set_option maxRecDepth 20000 in
theorem e_Mod_route_25 {d : Nat} {σ : PH} {K : PO → PH → Prop} (x0 : Nat) (x1 : Int32) (x2 : Int32) (x3 : Int32) (h : PW (d + 1) M_Mod_route 26 [.ref x0, .int x1, .int x2, .int x3, uu, uu] [.int 0] σ K) : PW (d + 1) M_Mod_route 25 [.ref x0, .int x1, .int x2, .int x3, uu, uu] [] σ K := by
  refine pw_iconst (v := 0) dc_Mod_route_25 (by decide) ?_
  exact h
set_option maxRecDepth 20000 in
theorem e_Mod_route_26 {d : Nat} {σ : PH} {K : PO → PH → Prop} (x0 : Nat) (x1 : Int32) (x2 : Int32) (x3 : Int32) (y0 : Int32) (h : (if y0 = 0 then PW (d + 1) M_Mod_route 42 [.ref x0, .int x1, .int x2, .int x3, .int y0, uu] [.int ((-1))] σ K else sh σ x0 = (1, 11) ∧ PW d M_Mod_routeAt 0 [.ref x0, .int x1, uu, uu] [] σ (kI (fun r1 σ1 => PW (d + 1) M_Mod_route 42 [.ref x0, .int x1, .int x2, .int x3, .int y0, uu] [.int r1] σ1 K) K))) : PW (d + 1) M_Mod_route 26 [.ref x0, .int x1, .int x2, .int x3, uu, uu] [.int y0] σ K := by
  refine pw_istore dc_Mod_route_26 (by decide) ?_
  refine pw_iload dc_Mod_route_28 rfl ?_
  refine pw_if_eq (tgt := 41) dc_Mod_route_30 (by decide) (fun hc => ?_) (fun hc => ?_)
  · have h := ite_t h hc
    refine pw_iconst (v := (-1)) dc_Mod_route_41 (by decide) ?_
    exact h
  · have h := ite_f h hc
    refine pw_aload_n dc_Mod_route_33 rfl rfl ?_
    refine pw_iload_n dc_Mod_route_34 rfl ?_
    obtain ⟨hs1, h⟩ := h
    refine pw_callV (vs := [.int x1]) (st := []) (b := x0) (cn := 11) dc_Mod_route_35 cq_Mod_routeAt (List.mem_of_getElem? (i := 1228) (by decide +kernel)) (List.mem_of_getElem? (i := 46) (by decide +kernel)) (List.mem_of_getElem? (i := 1226) (by decide +kernel)) rfl hs1 rfl rfl (by decide) (cat_cons rfl (cat_nil)) (Nat.le_of_ble_eq_true rfl) (PW.mono (kI_kN (fun r1 σ1 h => ?_)) h)
    refine pw_goto (tgt := 42) dc_Mod_route_38 (by decide) ?_
    exact h
set_option maxRecDepth 20000 in
theorem e_Mod_route_42 {d : Nat} {σ : PH} {K : PO → PH → Prop} (x0 : Nat) (x1 : Int32) (x2 : Int32) (x3 : Int32) (x4 : Int32) (y0 : Int32) (h : (if x4 = 0 then PW (d + 1) M_Mod_route 69 [.ref x0, .int x1, .int x2, .int x3, uu, .int y0] [] σ K else (if y0 < 0 then PW (d + 1) M_Mod_route 65 [.ref x0, .int x1, .int x2, .int x3, uu, .int y0] [] σ K else sh σ x0 = (1, 11) ∧ (∃ b1 : Nat, gR σ 714 x0 = some b1 ∧ (∃ n1 : Nat, sh σ b1 = (2, n1) ∧ vp_in y0 n1 ∧ (if (eI σ b1 (ix y0)) = 1 then PW (d + 1) M_Mod_route 65 [.ref x0, .int x1, .int x2, .int x3, uu, .int y0] [] σ K else PW (d + 1) M_Mod_route 69 [.ref x0, .int x1, .int x2, .int x3, uu, .int y0] [] σ K)))))) : PW (d + 1) M_Mod_route 42 [.ref x0, .int x1, .int x2, .int x3, .int x4, uu] [.int y0] σ K := by
  refine pw_istore dc_Mod_route_42 (by decide) ?_
  refine pw_iload dc_Mod_route_44 rfl ?_
  refine pw_if_eq (tgt := 69) dc_Mod_route_46 (by decide) (fun hc => ?_) (fun hc => ?_)
  · have h := ite_t h hc
    refine PW.drop (ls' := [.ref x0, .int x1, .int x2, .int x3, uu, .int y0]) ⟨Or.inl rfl, Or.inl rfl, Or.inl rfl, Or.inl rfl, Or.inr rfl, Or.inl rfl, trivial⟩ ?_
    exact h
  · have h := ite_f h hc
    refine pw_iload dc_Mod_route_49 rfl ?_
    refine pw_if_lt (tgt := 65) dc_Mod_route_51 (by decide) (fun hc => ?_) (fun hc => ?_)
    · have h := ite_t h hc
      refine PW.drop (ls' := [.ref x0, .int x1, .int x2, .int x3, uu, .int y0]) ⟨Or.inl rfl, Or.inl rfl, Or.inl rfl, Or.inl rfl, Or.inr rfl, Or.inl rfl, trivial⟩ ?_
      exact h
    · have h := ite_f h hc
      refine pw_aload_n dc_Mod_route_54 rfl rfl ?_
      obtain ⟨hs1, h⟩ := h
      refine pw_getR (c := 11) (k := 10) (f := 714) dc_Mod_route_55 fl_Mod_37 rfl rfl hs1 ?_
      obtain ⟨b1, hb1, h⟩ := h
      refine PW.top (v' := .ref b1) (congrArg va_rf hb1) ?_
      refine pw_iload dc_Mod_route_58 rfl ?_
      obtain ⟨n1, hs2, h⟩ := h
      obtain ⟨hi1, h⟩ := h
      refine pw_iald dc_Mod_route_60 hs2 hi1 ?_
      refine pw_iconst (v := 1) dc_Mod_route_61 (by decide) ?_
      refine pw_icmp_ne (tgt := 69) dc_Mod_route_62 (by decide) (fun hc => ?_) (fun hc => ?_)
      · have h := ite_f h hc
        refine PW.drop (ls' := [.ref x0, .int x1, .int x2, .int x3, uu, .int y0]) ⟨Or.inl rfl, Or.inl rfl, Or.inl rfl, Or.inl rfl, Or.inr rfl, Or.inl rfl, trivial⟩ ?_
        exact h
      · have h := ite_t h hc
        refine PW.drop (ls' := [.ref x0, .int x1, .int x2, .int x3, uu, .int y0]) ⟨Or.inl rfl, Or.inl rfl, Or.inl rfl, Or.inl rfl, Or.inr rfl, Or.inl rfl, trivial⟩ ?_
        exact h
set_option maxRecDepth 20000 in
theorem e_Mod_route_65 {d : Nat} {σ : PH} {K : PO → PH → Prop} (x0 : Nat) (x1 : Int32) (x2 : Int32) (x3 : Int32) (x5 : Int32) (h : PW (d + 1) M_Mod_route 70 [.ref x0, .int x1, .int x2, .int x3, uu, .int x5] [.int 1] σ K) : PW (d + 1) M_Mod_route 65 [.ref x0, .int x1, .int x2, .int x3, uu, .int x5] [] σ K := by
  refine pw_iconst (v := 1) dc_Mod_route_65 (by decide) ?_
  refine pw_goto (tgt := 70) dc_Mod_route_66 (by decide) ?_
  exact h
set_option maxRecDepth 20000 in
theorem e_Mod_route_69 {d : Nat} {σ : PH} {K : PO → PH → Prop} (x0 : Nat) (x1 : Int32) (x2 : Int32) (x3 : Int32) (x5 : Int32) (h : PW (d + 1) M_Mod_route 70 [.ref x0, .int x1, .int x2, .int x3, uu, .int x5] [.int 0] σ K) : PW (d + 1) M_Mod_route 69 [.ref x0, .int x1, .int x2, .int x3, uu, .int x5] [] σ K := by
  refine pw_iconst (v := 0) dc_Mod_route_69 (by decide) ?_
  exact h
set_option maxRecDepth 20000 in
theorem e_Mod_route_70 {d : Nat} {σ : PH} {K : PO → PH → Prop} (x0 : Nat) (x1 : Int32) (x2 : Int32) (x3 : Int32) (x5 : Int32) (y0 : Int32) (h : (if y0 = 0 then PW (d + 1) M_Mod_route 101 [.ref x0, .int x1, .int x2, .int x3, uu, .int x5] [.int 1, .ref x0] σ K else (if 0 ≤ x5 then PW (d + 1) M_Mod_route 100 [.ref x0, .int x1, .int x2, .int x3, uu, .int x5] [.ref x0] σ K else sh σ x0 = (1, 11) ∧ (if (gI σ 712 x0) = 12 then PW (d + 1) M_Mod_route 101 [.ref x0, .int x1, .int x2, .int x3, uu, .int x5] [.int 2, .ref x0] σ K else PW (d + 1) M_Mod_route 100 [.ref x0, .int x1, .int x2, .int x3, uu, .int x5] [.ref x0] σ K)))) : PW (d + 1) M_Mod_route 70 [.ref x0, .int x1, .int x2, .int x3, uu, .int x5] [.int y0] σ K := by
  refine pw_istore dc_Mod_route_70 (by decide) ?_
  refine pw_aload_n dc_Mod_route_72 rfl rfl ?_
  refine pw_iload dc_Mod_route_73 rfl ?_
  refine pw_if_ne (tgt := 82) dc_Mod_route_75 (by decide) (fun hc => ?_) (fun hc => ?_)
  · have h := ite_f h hc
    refine pw_iload dc_Mod_route_82 rfl ?_
    refine pw_if_ge (tgt := 100) dc_Mod_route_84 (by decide) (fun hc => ?_) (fun hc => ?_)
    · have h := ite_t h hc
      refine PW.drop (ls' := [.ref x0, .int x1, .int x2, .int x3, uu, .int x5]) ⟨Or.inl rfl, Or.inl rfl, Or.inl rfl, Or.inl rfl, Or.inr rfl, Or.inl rfl, trivial⟩ ?_
      exact h
    · have h := ite_f h hc
      refine pw_aload_n dc_Mod_route_87 rfl rfl ?_
      obtain ⟨hs1, h⟩ := h
      refine pw_getI (c := 11) (k := 8) (f := 712) dc_Mod_route_88 fl_Mod_263 rfl rfl hs1 ?_
      refine pw_bipush (v := 12) dc_Mod_route_91 (by decide) ?_
      refine pw_icmp_ne (tgt := 100) dc_Mod_route_93 (by decide) (fun hc => ?_) (fun hc => ?_)
      · have h := ite_f h hc
        refine PW.drop (ls' := [.ref x0, .int x1, .int x2, .int x3, uu, .int x5]) ⟨Or.inl rfl, Or.inl rfl, Or.inl rfl, Or.inl rfl, Or.inr rfl, Or.inl rfl, trivial⟩ ?_
        exact h
      · have h := ite_t h hc
        refine pw_iconst (v := 2) dc_Mod_route_96 (by decide) ?_
        refine pw_goto (tgt := 101) dc_Mod_route_97 (by decide) ?_
        refine PW.drop (ls' := [.ref x0, .int x1, .int x2, .int x3, uu, .int x5]) ⟨Or.inl rfl, Or.inl rfl, Or.inl rfl, Or.inl rfl, Or.inr rfl, Or.inl rfl, trivial⟩ ?_
        exact h
  · have h := ite_t h hc
    refine pw_iconst (v := 1) dc_Mod_route_78 (by decide) ?_
    refine pw_goto (tgt := 101) dc_Mod_route_79 (by decide) ?_
    refine PW.drop (ls' := [.ref x0, .int x1, .int x2, .int x3, uu, .int x5]) ⟨Or.inl rfl, Or.inl rfl, Or.inl rfl, Or.inl rfl, Or.inr rfl, Or.inl rfl, trivial⟩ ?_
    exact h
set_option maxRecDepth 20000 in
theorem e_Mod_route_100 {d : Nat} {σ : PH} {K : PO → PH → Prop} (x0 : Nat) (x1 : Int32) (x2 : Int32) (x3 : Int32) (x5 : Int32) (y0 : Nat) (h : PW (d + 1) M_Mod_route 101 [.ref x0, .int x1, .int x2, .int x3, uu, .int x5] [.int 0, .ref y0] σ K) : PW (d + 1) M_Mod_route 100 [.ref x0, .int x1, .int x2, .int x3, uu, .int x5] [.ref y0] σ K := by
  refine pw_iconst (v := 0) dc_Mod_route_100 (by decide) ?_
  exact h
set_option maxRecDepth 20000 in
theorem e_Mod_route_101 {d : Nat} {σ : PH} {K : PO → PH → Prop} (x0 : Nat) (x1 : Int32) (x2 : Int32) (x3 : Int32) (x5 : Int32) (y0 : Int32) (y1 : Nat) (h : sh σ y1 = (1, 11) ∧ PW d M_Mod_refused 0 [.ref y1, .int y0] [] σ (kI (fun r1 σ1 => (if r1 = 0 then (if 0 ≤ x5 then sh σ1 x0 = (1, 11) ∧ (∃ b1 : Nat, gR σ1 715 x0 = some b1 ∧ (∃ n1 : Nat, sh σ1 b1 = (2, n1) ∧ vp_in x5 n1 ∧ (∀ σ2 : PH, σ2 = uI σ1 b1 (ix x5) x2 → sh σ2 x0 = (1, 11) ∧ (∃ b2 : Nat, gR σ2 716 x0 = some b2 ∧ (∃ n2 : Nat, sh σ2 b2 = (2, n2) ∧ vp_in x5 n2 ∧ (∀ σ3 : PH, σ3 = uI σ2 b2 (ix x5) x3 → K (.inl none) σ3)))))) else sh σ1 x0 = (1, 11) ∧ PW d M_Mod_addRoute 0 [.ref x0, .int x1, .int 1] [] σ1 (kI (fun r2 σ4 => sh σ4 x0 = (1, 11) ∧ (∃ b3 : Nat, gR σ4 715 x0 = some b3 ∧ (∃ n3 : Nat, sh σ4 b3 = (2, n3) ∧ vp_in r2 n3 ∧ (∀ σ5 : PH, σ5 = uI σ4 b3 (ix r2) x2 → sh σ5 x0 = (1, 11) ∧ (∃ b4 : Nat, gR σ5 716 x0 = some b4 ∧ (∃ n4 : Nat, sh σ5 b4 = (2, n4) ∧ vp_in r2 n4 ∧ (∀ σ6 : PH, σ6 = uI σ5 b4 (ix r2) x3 → K (.inl none) σ6))))))) K)) else K (.inl none) σ1)) K)) : PW (d + 1) M_Mod_route 101 [.ref x0, .int x1, .int x2, .int x3, uu, .int x5] [.int y0, .ref y1] σ K := by
  obtain ⟨hs1, h⟩ := h
  refine pw_callV (vs := [.int y0]) (st := []) (b := y1) (cn := 11) dc_Mod_route_101 cq_Mod_refused (List.mem_of_getElem? (i := 1136) (by decide +kernel)) (List.mem_of_getElem? (i := 26) (by decide +kernel)) (List.mem_of_getElem? (i := 1134) (by decide +kernel)) rfl hs1 rfl rfl (by decide) (cat_cons rfl (cat_nil)) (Nat.le_of_ble_eq_true rfl) (PW.mono (kI_kN (fun r1 σ1 h => ?_)) h)
  refine pw_if_eq (tgt := 108) dc_Mod_route_104 (by decide) (fun hc => ?_) (fun hc => ?_)
  · have h := ite_t h hc
    refine pw_iload dc_Mod_route_108 rfl ?_
    refine pw_if_ge (tgt := 122) dc_Mod_route_110 (by decide) (fun hc => ?_) (fun hc => ?_)
    · have h := ite_t h hc
      refine pw_iload dc_Mod_route_122 rfl ?_
      refine pw_istore dc_Mod_route_124 (by decide) ?_
      refine pw_aload_n dc_Mod_route_126 rfl rfl ?_
      obtain ⟨hs2, h⟩ := h
      refine pw_getR (c := 11) (k := 11) (f := 715) dc_Mod_route_127 fl_Mod_40 rfl rfl hs2 ?_
      obtain ⟨b1, hb1, h⟩ := h
      refine PW.top (v' := .ref b1) (congrArg va_rf hb1) ?_
      refine pw_iload dc_Mod_route_130 rfl ?_
      refine pw_iload_n dc_Mod_route_132 rfl ?_
      obtain ⟨n1, hs3, h⟩ := h
      obtain ⟨hi1, h⟩ := h
      have h := h _ rfl
      refine pw_iast dc_Mod_route_133 hs3 hi1 ?_
      refine pw_aload_n dc_Mod_route_134 rfl rfl ?_
      obtain ⟨hs4, h⟩ := h
      refine pw_getR (c := 11) (k := 12) (f := 716) dc_Mod_route_135 fl_Mod_43 rfl rfl hs4 ?_
      obtain ⟨b2, hb2, h⟩ := h
      refine PW.top (v' := .ref b2) (congrArg va_rf hb2) ?_
      refine pw_iload dc_Mod_route_138 rfl ?_
      refine pw_iload_n dc_Mod_route_140 rfl ?_
      obtain ⟨n2, hs5, h⟩ := h
      obtain ⟨hi2, h⟩ := h
      have h := h _ rfl
      refine pw_iast dc_Mod_route_141 hs5 hi2 ?_
      exact pw_vret dc_Mod_route_142 rfl h
    · have h := ite_f h hc
      refine pw_aload_n dc_Mod_route_113 rfl rfl ?_
      refine pw_iload_n dc_Mod_route_114 rfl ?_
      refine pw_iconst (v := 1) dc_Mod_route_115 (by decide) ?_
      obtain ⟨hs6, h⟩ := h
      refine pw_callV (vs := [.int x1, .int 1]) (st := []) (b := x0) (cn := 11) dc_Mod_route_116 cq_Mod_addRoute (List.mem_of_getElem? (i := 1256) (by decide +kernel)) (List.mem_of_getElem? (i := 49) (by decide +kernel)) (List.mem_of_getElem? (i := 1254) (by decide +kernel)) rfl hs6 rfl rfl (by decide) (cat_cons rfl (cat_cons rfl (cat_nil))) (Nat.le_of_ble_eq_true rfl) (PW.mono (kI_kN (fun r2 σ4 h => ?_)) h)
      refine pw_goto (tgt := 124) dc_Mod_route_119 (by decide) ?_
      refine pw_istore dc_Mod_route_124 (by decide) ?_
      refine pw_aload_n dc_Mod_route_126 rfl rfl ?_
      obtain ⟨hs7, h⟩ := h
      refine pw_getR (c := 11) (k := 11) (f := 715) dc_Mod_route_127 fl_Mod_40 rfl rfl hs7 ?_
      obtain ⟨b3, hb3, h⟩ := h
      refine PW.top (v' := .ref b3) (congrArg va_rf hb3) ?_
      refine pw_iload dc_Mod_route_130 rfl ?_
      refine pw_iload_n dc_Mod_route_132 rfl ?_
      obtain ⟨n3, hs8, h⟩ := h
      obtain ⟨hi3, h⟩ := h
      have h := h _ rfl
      refine pw_iast dc_Mod_route_133 hs8 hi3 ?_
      refine pw_aload_n dc_Mod_route_134 rfl rfl ?_
      obtain ⟨hs9, h⟩ := h
      refine pw_getR (c := 11) (k := 12) (f := 716) dc_Mod_route_135 fl_Mod_43 rfl rfl hs9 ?_
      obtain ⟨b4, hb4, h⟩ := h
      refine PW.top (v' := .ref b4) (congrArg va_rf hb4) ?_
      refine pw_iload dc_Mod_route_138 rfl ?_
      refine pw_iload_n dc_Mod_route_140 rfl ?_
      obtain ⟨n4, hs10, h⟩ := h
      obtain ⟨hi4, h⟩ := h
      have h := h _ rfl
      refine pw_iast dc_Mod_route_141 hs10 hi4 ?_
      exact pw_vret dc_Mod_route_142 rfl h
  · have h := ite_f h hc
    exact pw_vret dc_Mod_route_107 rfl h
theorem dc_Mod_leads_0 : decode M_Mod_leads.2.1 0 = .ok (.iconst 0, 1) := by decide +kernel
theorem dc_Mod_leads_1 : decode M_Mod_leads.2.1 1 = .ok (.istore_n 3, 1) := by decide +kernel
theorem dc_Mod_leads_2 : decode M_Mod_leads.2.1 2 = .ok (.iload_n 3, 1) := by decide +kernel
theorem dc_Mod_leads_3 : decode M_Mod_leads.2.1 3 = .ok (.bipush 12, 2) := by decide +kernel
theorem dc_Mod_leads_5 : decode M_Mod_leads.2.1 5 = .ok (.if_icmp .ge 16, 3) := by decide +kernel
theorem dc_Mod_leads_8 : decode M_Mod_leads.2.1 8 = .ok (.aload_n 0, 1) := by decide +kernel
theorem dc_Mod_leads_9 : decode M_Mod_leads.2.1 9 = .ok (.getfield 133, 3) := by decide +kernel
theorem dc_Mod_leads_12 : decode M_Mod_leads.2.1 12 = .ok (.iload_n 3, 1) := by decide +kernel
theorem dc_Mod_leads_13 : decode M_Mod_leads.2.1 13 = .ok (.iconst 0, 1) := by decide +kernel
theorem dc_Mod_leads_14 : decode M_Mod_leads.2.1 14 = .ok (.bastore, 1) := by decide +kernel
theorem dc_Mod_leads_15 : decode M_Mod_leads.2.1 15 = .ok (.iinc 3 1, 3) := by decide +kernel
theorem dc_Mod_leads_18 : decode M_Mod_leads.2.1 18 = .ok (.goto (-16), 3) := by decide +kernel
theorem dc_Mod_leads_21 : decode M_Mod_leads.2.1 21 = .ok (.aload_n 0, 1) := by decide +kernel
theorem dc_Mod_leads_22 : decode M_Mod_leads.2.1 22 = .ok (.iload_n 1, 1) := by decide +kernel
theorem dc_Mod_leads_23 : decode M_Mod_leads.2.1 23 = .ok (.invokevirtual 270, 3) := by decide +kernel
theorem dc_Mod_leads_26 : decode M_Mod_leads.2.1 26 = .ok (.istore_n 3, 1) := by decide +kernel
theorem dc_Mod_leads_27 : decode M_Mod_leads.2.1 27 = .ok (.iload_n 3, 1) := by decide +kernel
theorem dc_Mod_leads_28 : decode M_Mod_leads.2.1 28 = .ok (.ifCond .ge 5, 3) := by decide +kernel
theorem dc_Mod_leads_31 : decode M_Mod_leads.2.1 31 = .ok (.iconst 0, 1) := by decide +kernel
theorem dc_Mod_leads_32 : decode M_Mod_leads.2.1 32 = .ok (.ireturn, 1) := by decide +kernel
theorem dc_Mod_leads_33 : decode M_Mod_leads.2.1 33 = .ok (.aload_n 0, 1) := by decide +kernel
theorem dc_Mod_leads_34 : decode M_Mod_leads.2.1 34 = .ok (.getfield 133, 3) := by decide +kernel
theorem dc_Mod_leads_37 : decode M_Mod_leads.2.1 37 = .ok (.iload_n 3, 1) := by decide +kernel
theorem dc_Mod_leads_38 : decode M_Mod_leads.2.1 38 = .ok (.iconst 1, 1) := by decide +kernel
theorem dc_Mod_leads_39 : decode M_Mod_leads.2.1 39 = .ok (.bastore, 1) := by decide +kernel
theorem dc_Mod_leads_40 : decode M_Mod_leads.2.1 40 = .ok (.iconst 0, 1) := by decide +kernel
theorem dc_Mod_leads_41 : decode M_Mod_leads.2.1 41 = .ok (.istore 4, 2) := by decide +kernel
theorem dc_Mod_leads_43 : decode M_Mod_leads.2.1 43 = .ok (.iconst 0, 1) := by decide +kernel
theorem dc_Mod_leads_44 : decode M_Mod_leads.2.1 44 = .ok (.istore 5, 2) := by decide +kernel
theorem dc_Mod_leads_46 : decode M_Mod_leads.2.1 46 = .ok (.iload 5, 2) := by decide +kernel
theorem dc_Mod_leads_48 : decode M_Mod_leads.2.1 48 = .ok (.bipush 12, 2) := by decide +kernel
theorem dc_Mod_leads_50 : decode M_Mod_leads.2.1 50 = .ok (.if_icmp .ge 111, 3) := by decide +kernel
theorem dc_Mod_leads_53 : decode M_Mod_leads.2.1 53 = .ok (.iconst 0, 1) := by decide +kernel
theorem dc_Mod_leads_54 : decode M_Mod_leads.2.1 54 = .ok (.istore 6, 2) := by decide +kernel
theorem dc_Mod_leads_56 : decode M_Mod_leads.2.1 56 = .ok (.iload 6, 2) := by decide +kernel
theorem dc_Mod_leads_58 : decode M_Mod_leads.2.1 58 = .ok (.aload_n 0, 1) := by decide +kernel
theorem dc_Mod_leads_59 : decode M_Mod_leads.2.1 59 = .ok (.getfield 263, 3) := by decide +kernel
theorem dc_Mod_leads_62 : decode M_Mod_leads.2.1 62 = .ok (.if_icmp .ge 93, 3) := by decide +kernel
theorem dc_Mod_leads_65 : decode M_Mod_leads.2.1 65 = .ok (.iconst 0, 1) := by decide +kernel
theorem dc_Mod_leads_66 : decode M_Mod_leads.2.1 66 = .ok (.istore 7, 2) := by decide +kernel
theorem dc_Mod_leads_68 : decode M_Mod_leads.2.1 68 = .ok (.aload_n 0, 1) := by decide +kernel
theorem dc_Mod_leads_69 : decode M_Mod_leads.2.1 69 = .ok (.getfield 133, 3) := by decide +kernel
theorem dc_Mod_leads_72 : decode M_Mod_leads.2.1 72 = .ok (.iload 6, 2) := by decide +kernel
theorem dc_Mod_leads_74 : decode M_Mod_leads.2.1 74 = .ok (.baload, 1) := by decide +kernel
theorem dc_Mod_leads_75 : decode M_Mod_leads.2.1 75 = .ok (.ifCond .eq 74, 3) := by decide +kernel
theorem dc_Mod_leads_78 : decode M_Mod_leads.2.1 78 = .ok (.iload 7, 2) := by decide +kernel
theorem dc_Mod_leads_80 : decode M_Mod_leads.2.1 80 = .ok (.aload_n 0, 1) := by decide +kernel
theorem dc_Mod_leads_81 : decode M_Mod_leads.2.1 81 = .ok (.getfield 46, 3) := by decide +kernel
theorem dc_Mod_leads_84 : decode M_Mod_leads.2.1 84 = .ok (.iload 6, 2) := by decide +kernel
theorem dc_Mod_leads_86 : decode M_Mod_leads.2.1 86 = .ok (.iaload, 1) := by decide +kernel
theorem dc_Mod_leads_87 : decode M_Mod_leads.2.1 87 = .ok (.if_icmp .ge 62, 3) := by decide +kernel
theorem dc_Mod_leads_90 : decode M_Mod_leads.2.1 90 = .ok (.aload_n 0, 1) := by decide +kernel
theorem dc_Mod_leads_91 : decode M_Mod_leads.2.1 91 = .ok (.getfield 49, 3) := by decide +kernel
theorem dc_Mod_leads_94 : decode M_Mod_leads.2.1 94 = .ok (.iconst 4, 1) := by decide +kernel
theorem dc_Mod_leads_95 : decode M_Mod_leads.2.1 95 = .ok (.iload 6, 2) := by decide +kernel
theorem dc_Mod_leads_97 : decode M_Mod_leads.2.1 97 = .ok (.imul, 1) := by decide +kernel
theorem dc_Mod_leads_98 : decode M_Mod_leads.2.1 98 = .ok (.iload 7, 2) := by decide +kernel
theorem dc_Mod_leads_100 : decode M_Mod_leads.2.1 100 = .ok (.iadd, 1) := by decide +kernel
theorem dc_Mod_leads_101 : decode M_Mod_leads.2.1 101 = .ok (.iaload, 1) := by decide +kernel
theorem dc_Mod_leads_102 : decode M_Mod_leads.2.1 102 = .ok (.istore 8, 2) := by decide +kernel
theorem dc_Mod_leads_104 : decode M_Mod_leads.2.1 104 = .ok (.iload 4, 2) := by decide +kernel
theorem dc_Mod_leads_106 : decode M_Mod_leads.2.1 106 = .ok (.ifCond .ne 9, 3) := by decide +kernel
theorem dc_Mod_leads_109 : decode M_Mod_leads.2.1 109 = .ok (.iload 8, 2) := by decide +kernel
theorem dc_Mod_leads_111 : decode M_Mod_leads.2.1 111 = .ok (.iload_n 2, 1) := by decide +kernel
theorem dc_Mod_leads_112 : decode M_Mod_leads.2.1 112 = .ok (.if_icmp .ne 7, 3) := by decide +kernel
theorem dc_Mod_leads_115 : decode M_Mod_leads.2.1 115 = .ok (.iconst 1, 1) := by decide +kernel
theorem dc_Mod_leads_116 : decode M_Mod_leads.2.1 116 = .ok (.goto 4, 3) := by decide +kernel
theorem dc_Mod_leads_119 : decode M_Mod_leads.2.1 119 = .ok (.iconst 0, 1) := by decide +kernel
theorem dc_Mod_leads_120 : decode M_Mod_leads.2.1 120 = .ok (.istore 4, 2) := by decide +kernel
theorem dc_Mod_leads_122 : decode M_Mod_leads.2.1 122 = .ok (.aload_n 0, 1) := by decide +kernel
theorem dc_Mod_leads_123 : decode M_Mod_leads.2.1 123 = .ok (.iload 8, 2) := by decide +kernel
theorem dc_Mod_leads_125 : decode M_Mod_leads.2.1 125 = .ok (.invokevirtual 270, 3) := by decide +kernel
theorem dc_Mod_leads_128 : decode M_Mod_leads.2.1 128 = .ok (.ifCond .lt 15, 3) := by decide +kernel
theorem dc_Mod_leads_131 : decode M_Mod_leads.2.1 131 = .ok (.aload_n 0, 1) := by decide +kernel
theorem dc_Mod_leads_132 : decode M_Mod_leads.2.1 132 = .ok (.getfield 133, 3) := by decide +kernel
theorem dc_Mod_leads_135 : decode M_Mod_leads.2.1 135 = .ok (.aload_n 0, 1) := by decide +kernel
theorem dc_Mod_leads_136 : decode M_Mod_leads.2.1 136 = .ok (.iload 8, 2) := by decide +kernel
theorem dc_Mod_leads_138 : decode M_Mod_leads.2.1 138 = .ok (.invokevirtual 270, 3) := by decide +kernel
theorem dc_Mod_leads_141 : decode M_Mod_leads.2.1 141 = .ok (.iconst 1, 1) := by decide +kernel
theorem dc_Mod_leads_142 : decode M_Mod_leads.2.1 142 = .ok (.bastore, 1) := by decide +kernel
theorem dc_Mod_leads_143 : decode M_Mod_leads.2.1 143 = .ok (.iinc 7 1, 3) := by decide +kernel
theorem dc_Mod_leads_146 : decode M_Mod_leads.2.1 146 = .ok (.goto (-78), 3) := by decide +kernel
theorem dc_Mod_leads_149 : decode M_Mod_leads.2.1 149 = .ok (.iinc 6 1, 3) := by decide +kernel
theorem dc_Mod_leads_152 : decode M_Mod_leads.2.1 152 = .ok (.goto (-96), 3) := by decide +kernel
theorem dc_Mod_leads_155 : decode M_Mod_leads.2.1 155 = .ok (.iinc 5 1, 3) := by decide +kernel
theorem dc_Mod_leads_158 : decode M_Mod_leads.2.1 158 = .ok (.goto (-112), 3) := by decide +kernel
theorem dc_Mod_leads_161 : decode M_Mod_leads.2.1 161 = .ok (.iload 4, 2) := by decide +kernel
theorem dc_Mod_leads_163 : decode M_Mod_leads.2.1 163 = .ok (.ireturn, 1) := by decide +kernel
set_option maxRecDepth 20000 in
theorem e_Mod_leads_0 {d : Nat} {σ : PH} {K : PO → PH → Prop} (x0 : Nat) (x1 : Int32) (x2 : Int32) (h : PW (d + 1) M_Mod_leads 2 [.ref x0, .int x1, .int x2, .int 0, uu, uu, uu, uu, uu] [] σ K) : PW (d + 1) M_Mod_leads 0 [.ref x0, .int x1, .int x2, uu, uu, uu, uu, uu, uu] [] σ K := by
  refine pw_iconst (v := 0) dc_Mod_leads_0 (by decide) ?_
  refine pw_istore_n dc_Mod_leads_1 (by decide) ?_
  exact h
set_option maxRecDepth 20000 in
theorem e_Mod_leads_2 {d : Nat} {σ : PH} {K : PO → PH → Prop} (x0 : Nat) (x1 : Int32) (x2 : Int32) (x3 : Int32) (h : (if 12 ≤ x3 then sh σ x0 = (1, 11) ∧ PW d M_Mod_routeAt 0 [.ref x0, .int x1, uu, uu] [] σ (kI (fun r1 σ1 => (if 0 ≤ r1 then sh σ1 x0 = (1, 11) ∧ (∃ b1 : Nat, gR σ1 758 x0 = some b1 ∧ (∃ n1 : Nat, sh σ1 b1 = (4, n1) ∧ vp_in r1 n1 ∧ (∀ σ2 : PH, σ2 = uI σ1 b1 (ix r1) 1 → PW (d + 1) M_Mod_leads 46 [.ref x0, uu, .int x2, uu, .int 0, .int 0, uu, uu, uu] [] σ2 K))) else K (.inl (some (.int 0))) σ1)) K) else sh σ x0 = (1, 11) ∧ (∃ b2 : Nat, gR σ 758 x0 = some b2 ∧ (∃ n2 : Nat, sh σ b2 = (4, n2) ∧ vp_in x3 n2 ∧ (∀ σ3 : PH, σ3 = uI σ b2 (ix x3) 0 → PW (d + 1) M_Mod_leads 2 [.ref x0, .int x1, .int x2, .int (x3 + 1), uu, uu, uu, uu, uu] [] σ3 K))))) : PW (d + 1) M_Mod_leads 2 [.ref x0, .int x1, .int x2, .int x3, uu, uu, uu, uu, uu] [] σ K := by
  refine pw_iload_n dc_Mod_leads_2 rfl ?_
  refine pw_bipush (v := 12) dc_Mod_leads_3 (by decide) ?_
  refine pw_icmp_ge (tgt := 21) dc_Mod_leads_5 (by decide) (fun hc => ?_) (fun hc => ?_)
  · have h := ite_t h hc
    refine pw_aload_n dc_Mod_leads_21 rfl rfl ?_
    refine pw_iload_n dc_Mod_leads_22 rfl ?_
    obtain ⟨hs1, h⟩ := h
    refine pw_callV (vs := [.int x1]) (st := []) (b := x0) (cn := 11) dc_Mod_leads_23 cq_Mod_routeAt (List.mem_of_getElem? (i := 1228) (by decide +kernel)) (List.mem_of_getElem? (i := 46) (by decide +kernel)) (List.mem_of_getElem? (i := 1226) (by decide +kernel)) rfl hs1 rfl rfl (by decide) (cat_cons rfl (cat_nil)) (Nat.le_of_ble_eq_true rfl) (PW.mono (kI_kN (fun r1 σ1 h => ?_)) h)
    refine pw_istore_n dc_Mod_leads_26 (by decide) ?_
    refine pw_iload_n dc_Mod_leads_27 rfl ?_
    refine pw_if_ge (tgt := 33) dc_Mod_leads_28 (by decide) (fun hc => ?_) (fun hc => ?_)
    · have h := ite_t h hc
      refine pw_aload_n dc_Mod_leads_33 rfl rfl ?_
      obtain ⟨hs2, h⟩ := h
      refine pw_getR (c := 11) (k := 54) (f := 758) dc_Mod_leads_34 fl_Mod_133 rfl rfl hs2 ?_
      obtain ⟨b1, hb1, h⟩ := h
      refine PW.top (v' := .ref b1) (congrArg va_rf hb1) ?_
      refine pw_iload_n dc_Mod_leads_37 rfl ?_
      refine pw_iconst (v := 1) dc_Mod_leads_38 (by decide) ?_
      obtain ⟨n1, hs3, h⟩ := h
      obtain ⟨hi1, h⟩ := h
      have h := h _ rfl
      refine pw_zast dc_Mod_leads_39 hs3 hi1 (Or.inr rfl) ?_
      refine pw_iconst (v := 0) dc_Mod_leads_40 (by decide) ?_
      refine pw_istore dc_Mod_leads_41 (by decide) ?_
      refine pw_iconst (v := 0) dc_Mod_leads_43 (by decide) ?_
      refine pw_istore dc_Mod_leads_44 (by decide) ?_
      refine PW.drop (ls' := [.ref x0, uu, .int x2, uu, .int 0, .int 0, uu, uu, uu]) ⟨Or.inl rfl, Or.inr rfl, Or.inl rfl, Or.inr rfl, Or.inl rfl, Or.inl rfl, Or.inl rfl, Or.inl rfl, Or.inl rfl, trivial⟩ ?_
      exact h
    · have h := ite_f h hc
      refine pw_iconst (v := 0) dc_Mod_leads_31 (by decide) ?_
      exact pw_iret dc_Mod_leads_32 rfl (bo_nar (Or.inl rfl)) h
  · have h := ite_f h hc
    refine pw_aload_n dc_Mod_leads_8 rfl rfl ?_
    obtain ⟨hs4, h⟩ := h
    refine pw_getR (c := 11) (k := 54) (f := 758) dc_Mod_leads_9 fl_Mod_133 rfl rfl hs4 ?_
    obtain ⟨b2, hb2, h⟩ := h
    refine PW.top (v' := .ref b2) (congrArg va_rf hb2) ?_
    refine pw_iload_n dc_Mod_leads_12 rfl ?_
    refine pw_iconst (v := 0) dc_Mod_leads_13 (by decide) ?_
    obtain ⟨n2, hs5, h⟩ := h
    obtain ⟨hi2, h⟩ := h
    have h := h _ rfl
    refine pw_zast dc_Mod_leads_14 hs5 hi2 (Or.inl rfl) ?_
    refine pw_iincv (v := 1) dc_Mod_leads_15 (by decide) rfl (by decide) ?_
    refine pw_goto (tgt := 2) dc_Mod_leads_18 (by decide) ?_
    exact h
set_option maxRecDepth 20000 in
theorem e_Mod_leads_46 {d : Nat} {σ : PH} {K : PO → PH → Prop} (x0 : Nat) (x2 : Int32) (x4 : Int32) (x5 : Int32) (h : (if 12 ≤ x5 then bo x4 ∧ K (.inl (some (.int x4))) σ else PW (d + 1) M_Mod_leads 56 [.ref x0, uu, .int x2, uu, .int x4, .int x5, .int 0, uu, uu] [] σ K)) : PW (d + 1) M_Mod_leads 46 [.ref x0, uu, .int x2, uu, .int x4, .int x5, uu, uu, uu] [] σ K := by
  refine pw_iload dc_Mod_leads_46 rfl ?_
  refine pw_bipush (v := 12) dc_Mod_leads_48 (by decide) ?_
  refine pw_icmp_ge (tgt := 161) dc_Mod_leads_50 (by decide) (fun hc => ?_) (fun hc => ?_)
  · have h := ite_t h hc
    refine pw_iload dc_Mod_leads_161 rfl ?_
    exact pw_iret dc_Mod_leads_163 rfl (bo_nar h.1) h.2
  · have h := ite_f h hc
    refine pw_iconst (v := 0) dc_Mod_leads_53 (by decide) ?_
    refine pw_istore dc_Mod_leads_54 (by decide) ?_
    exact h
set_option maxRecDepth 20000 in
theorem e_Mod_leads_56 {d : Nat} {σ : PH} {K : PO → PH → Prop} (x0 : Nat) (x2 : Int32) (x4 : Int32) (x5 : Int32) (x6 : Int32) (h : sh σ x0 = (1, 11) ∧ (if (gI σ 712 x0) ≤ x6 then PW (d + 1) M_Mod_leads 46 [.ref x0, uu, .int x2, uu, .int x4, .int (x5 + 1), uu, uu, uu] [] σ K else PW (d + 1) M_Mod_leads 68 [.ref x0, uu, .int x2, uu, .int x4, .int x5, .int x6, .int 0, uu] [] σ K)) : PW (d + 1) M_Mod_leads 56 [.ref x0, uu, .int x2, uu, .int x4, .int x5, .int x6, uu, uu] [] σ K := by
  refine pw_iload dc_Mod_leads_56 rfl ?_
  refine pw_aload_n dc_Mod_leads_58 rfl rfl ?_
  obtain ⟨hs1, h⟩ := h
  refine pw_getI (c := 11) (k := 8) (f := 712) dc_Mod_leads_59 fl_Mod_263 rfl rfl hs1 ?_
  refine pw_icmp_ge (tgt := 155) dc_Mod_leads_62 (by decide) (fun hc => ?_) (fun hc => ?_)
  · have h := ite_t h hc
    refine pw_iincv (v := 1) dc_Mod_leads_155 (by decide) rfl (by decide) ?_
    refine pw_goto (tgt := 46) dc_Mod_leads_158 (by decide) ?_
    refine PW.drop (ls' := [.ref x0, uu, .int x2, uu, .int x4, .int (x5 + 1), uu, uu, uu]) ⟨Or.inl rfl, Or.inl rfl, Or.inl rfl, Or.inl rfl, Or.inl rfl, Or.inl rfl, Or.inr rfl, Or.inl rfl, Or.inl rfl, trivial⟩ ?_
    exact h
  · have h := ite_f h hc
    refine pw_iconst (v := 0) dc_Mod_leads_65 (by decide) ?_
    refine pw_istore dc_Mod_leads_66 (by decide) ?_
    exact h
set_option maxRecDepth 20000 in
theorem e_Mod_leads_68 {d : Nat} {σ : PH} {K : PO → PH → Prop} (x0 : Nat) (x2 : Int32) (x4 : Int32) (x5 : Int32) (x6 : Int32) (x7 : Int32) (h : sh σ x0 = (1, 11) ∧ (∃ b1 : Nat, gR σ 758 x0 = some b1 ∧ (∃ n1 : Nat, sh σ b1 = (4, n1) ∧ vp_in x6 n1 ∧ (if (eI σ b1 (ix x6)) = 0 then PW (d + 1) M_Mod_leads 149 [.ref x0, uu, .int x2, uu, .int x4, .int x5, .int x6, uu, uu] [] σ K else (∃ b2 : Nat, gR σ 717 x0 = some b2 ∧ (∃ n2 : Nat, sh σ b2 = (2, n2) ∧ vp_in x6 n2 ∧ (if (eI σ b2 (ix x6)) ≤ x7 then PW (d + 1) M_Mod_leads 149 [.ref x0, uu, .int x2, uu, .int x4, .int x5, .int x6, uu, uu] [] σ K else (∃ b3 : Nat, gR σ 718 x0 = some b3 ∧ (∃ n3 : Nat, sh σ b3 = (2, n3) ∧ vp_in ((4 * x6) + x7) n3 ∧ (if x4 = 0 then (if (eI σ b3 (ix ((4 * x6) + x7))) = x2 then PW (d + 1) M_Mod_leads 115 [.ref x0, uu, .int x2, uu, uu, .int x5, .int x6, .int x7, .int (eI σ b3 (ix ((4 * x6) + x7)))] [] σ K else PW (d + 1) M_Mod_leads 120 [.ref x0, uu, .int x2, uu, uu, .int x5, .int x6, .int x7, .int (eI σ b3 (ix ((4 * x6) + x7)))] [.int 0] σ K) else PW (d + 1) M_Mod_leads 115 [.ref x0, uu, .int x2, uu, uu, .int x5, .int x6, .int x7, .int (eI σ b3 (ix ((4 * x6) + x7)))] [] σ K)))))))))) : PW (d + 1) M_Mod_leads 68 [.ref x0, uu, .int x2, uu, .int x4, .int x5, .int x6, .int x7, uu] [] σ K := by
  refine pw_aload_n dc_Mod_leads_68 rfl rfl ?_
  obtain ⟨hs1, h⟩ := h
  refine pw_getR (c := 11) (k := 54) (f := 758) dc_Mod_leads_69 fl_Mod_133 rfl rfl hs1 ?_
  obtain ⟨b1, hb1, h⟩ := h
  refine PW.top (v' := .ref b1) (congrArg va_rf hb1) ?_
  refine pw_iload dc_Mod_leads_72 rfl ?_
  obtain ⟨n1, hs2, h⟩ := h
  obtain ⟨hi1, h⟩ := h
  refine pw_zald dc_Mod_leads_74 hs2 hi1 ?_
  refine pw_if_eq (tgt := 149) dc_Mod_leads_75 (by decide) (fun hc => ?_) (fun hc => ?_)
  · have h := ite_t h hc
    refine PW.drop (ls' := [.ref x0, uu, .int x2, uu, .int x4, .int x5, .int x6, uu, uu]) ⟨Or.inl rfl, Or.inl rfl, Or.inl rfl, Or.inl rfl, Or.inl rfl, Or.inl rfl, Or.inl rfl, Or.inr rfl, Or.inl rfl, trivial⟩ ?_
    exact h
  · have h := ite_f h hc
    refine pw_iload dc_Mod_leads_78 rfl ?_
    refine pw_aload_n dc_Mod_leads_80 rfl rfl ?_
    refine pw_getR (c := 11) (k := 13) (f := 717) dc_Mod_leads_81 fl_Mod_46 rfl rfl hs1 ?_
    obtain ⟨b2, hb2, h⟩ := h
    refine PW.top (v' := .ref b2) (congrArg va_rf hb2) ?_
    refine pw_iload dc_Mod_leads_84 rfl ?_
    obtain ⟨n2, hs3, h⟩ := h
    obtain ⟨hi2, h⟩ := h
    refine pw_iald dc_Mod_leads_86 hs3 hi2 ?_
    refine pw_icmp_ge (tgt := 149) dc_Mod_leads_87 (by decide) (fun hc => ?_) (fun hc => ?_)
    · have h := ite_t h hc
      refine PW.drop (ls' := [.ref x0, uu, .int x2, uu, .int x4, .int x5, .int x6, uu, uu]) ⟨Or.inl rfl, Or.inl rfl, Or.inl rfl, Or.inl rfl, Or.inl rfl, Or.inl rfl, Or.inl rfl, Or.inr rfl, Or.inl rfl, trivial⟩ ?_
      exact h
    · have h := ite_f h hc
      refine pw_aload_n dc_Mod_leads_90 rfl rfl ?_
      refine pw_getR (c := 11) (k := 14) (f := 718) dc_Mod_leads_91 fl_Mod_49 rfl rfl hs1 ?_
      obtain ⟨b3, hb3, h⟩ := h
      refine PW.top (v' := .ref b3) (congrArg va_rf hb3) ?_
      refine pw_iconst (v := 4) dc_Mod_leads_94 (by decide) ?_
      refine pw_iload dc_Mod_leads_95 rfl ?_
      refine pw_imul dc_Mod_leads_97 ?_
      refine pw_iload dc_Mod_leads_98 rfl ?_
      refine pw_iadd dc_Mod_leads_100 ?_
      obtain ⟨n3, hs4, h⟩ := h
      obtain ⟨hi3, h⟩ := h
      refine pw_iald dc_Mod_leads_101 hs4 hi3 ?_
      refine pw_istore dc_Mod_leads_102 (by decide) ?_
      refine pw_iload dc_Mod_leads_104 rfl ?_
      refine pw_if_ne (tgt := 115) dc_Mod_leads_106 (by decide) (fun hc => ?_) (fun hc => ?_)
      · have h := ite_f h hc
        refine PW.drop (ls' := [.ref x0, uu, .int x2, uu, uu, .int x5, .int x6, .int x7, .int (eI σ b3 (ix ((4 * x6) + x7)))]) ⟨Or.inl rfl, Or.inl rfl, Or.inl rfl, Or.inl rfl, Or.inr rfl, Or.inl rfl, Or.inl rfl, Or.inl rfl, Or.inl rfl, trivial⟩ ?_
        exact h
      · have h := ite_t h hc
        refine pw_iload dc_Mod_leads_109 rfl ?_
        refine pw_iload_n dc_Mod_leads_111 rfl ?_
        refine pw_icmp_ne (tgt := 119) dc_Mod_leads_112 (by decide) (fun hc => ?_) (fun hc => ?_)
        · have h := ite_f h hc
          refine pw_iconst (v := 0) dc_Mod_leads_119 (by decide) ?_
          refine PW.drop (ls' := [.ref x0, uu, .int x2, uu, uu, .int x5, .int x6, .int x7, .int (eI σ b3 (ix ((4 * x6) + x7)))]) ⟨Or.inl rfl, Or.inl rfl, Or.inl rfl, Or.inl rfl, Or.inr rfl, Or.inl rfl, Or.inl rfl, Or.inl rfl, Or.inl rfl, trivial⟩ ?_
          exact h
        · have h := ite_t h hc
          refine PW.drop (ls' := [.ref x0, uu, .int x2, uu, uu, .int x5, .int x6, .int x7, .int (eI σ b3 (ix ((4 * x6) + x7)))]) ⟨Or.inl rfl, Or.inl rfl, Or.inl rfl, Or.inl rfl, Or.inr rfl, Or.inl rfl, Or.inl rfl, Or.inl rfl, Or.inl rfl, trivial⟩ ?_
          exact h
set_option maxRecDepth 20000 in
theorem e_Mod_leads_115 {d : Nat} {σ : PH} {K : PO → PH → Prop} (x0 : Nat) (x2 : Int32) (x5 : Int32) (x6 : Int32) (x7 : Int32) (x8 : Int32) (h : PW (d + 1) M_Mod_leads 120 [.ref x0, uu, .int x2, uu, uu, .int x5, .int x6, .int x7, .int x8] [.int 1] σ K) : PW (d + 1) M_Mod_leads 115 [.ref x0, uu, .int x2, uu, uu, .int x5, .int x6, .int x7, .int x8] [] σ K := by
  refine pw_iconst (v := 1) dc_Mod_leads_115 (by decide) ?_
  refine pw_goto (tgt := 120) dc_Mod_leads_116 (by decide) ?_
  exact h
set_option maxRecDepth 20000 in
theorem e_Mod_leads_120 {d : Nat} {σ : PH} {K : PO → PH → Prop} (x0 : Nat) (x2 : Int32) (x5 : Int32) (x6 : Int32) (x7 : Int32) (x8 : Int32) (y0 : Int32) (h : sh σ x0 = (1, 11) ∧ PW d M_Mod_routeAt 0 [.ref x0, .int x8, uu, uu] [] σ (kI (fun r1 σ1 => (if r1 < 0 then PW (d + 1) M_Mod_leads 143 [.ref x0, uu, .int x2, uu, .int y0, .int x5, .int x6, .int x7, uu] [] σ1 K else sh σ1 x0 = (1, 11) ∧ (∃ b1 : Nat, gR σ1 758 x0 = some b1 ∧ PW d M_Mod_routeAt 0 [.ref x0, .int x8, uu, uu] [] σ1 (kI (fun r2 σ2 => (∃ n1 : Nat, sh σ2 b1 = (4, n1) ∧ vp_in r2 n1 ∧ (∀ σ3 : PH, σ3 = uI σ2 b1 (ix r2) 1 → PW (d + 1) M_Mod_leads 143 [.ref x0, uu, .int x2, uu, .int y0, .int x5, .int x6, .int x7, uu] [] σ3 K))) K)))) K)) : PW (d + 1) M_Mod_leads 120 [.ref x0, uu, .int x2, uu, uu, .int x5, .int x6, .int x7, .int x8] [.int y0] σ K := by
  refine pw_istore dc_Mod_leads_120 (by decide) ?_
  refine pw_aload_n dc_Mod_leads_122 rfl rfl ?_
  refine pw_iload dc_Mod_leads_123 rfl ?_
  obtain ⟨hs1, h⟩ := h
  refine pw_callV (vs := [.int x8]) (st := []) (b := x0) (cn := 11) dc_Mod_leads_125 cq_Mod_routeAt (List.mem_of_getElem? (i := 1228) (by decide +kernel)) (List.mem_of_getElem? (i := 46) (by decide +kernel)) (List.mem_of_getElem? (i := 1226) (by decide +kernel)) rfl hs1 rfl rfl (by decide) (cat_cons rfl (cat_nil)) (Nat.le_of_ble_eq_true rfl) (PW.mono (kI_kN (fun r1 σ1 h => ?_)) h)
  refine pw_if_lt (tgt := 143) dc_Mod_leads_128 (by decide) (fun hc => ?_) (fun hc => ?_)
  · have h := ite_t h hc
    refine PW.drop (ls' := [.ref x0, uu, .int x2, uu, .int y0, .int x5, .int x6, .int x7, uu]) ⟨Or.inl rfl, Or.inl rfl, Or.inl rfl, Or.inl rfl, Or.inl rfl, Or.inl rfl, Or.inl rfl, Or.inl rfl, Or.inr rfl, trivial⟩ ?_
    exact h
  · have h := ite_f h hc
    refine pw_aload_n dc_Mod_leads_131 rfl rfl ?_
    obtain ⟨hs2, h⟩ := h
    refine pw_getR (c := 11) (k := 54) (f := 758) dc_Mod_leads_132 fl_Mod_133 rfl rfl hs2 ?_
    obtain ⟨b1, hb1, h⟩ := h
    refine PW.top (v' := .ref b1) (congrArg va_rf hb1) ?_
    refine pw_aload_n dc_Mod_leads_135 rfl rfl ?_
    refine pw_iload dc_Mod_leads_136 rfl ?_
    refine pw_callV (vs := [.int x8]) (st := [.ref b1]) (b := x0) (cn := 11) dc_Mod_leads_138 cq_Mod_routeAt (List.mem_of_getElem? (i := 1228) (by decide +kernel)) (List.mem_of_getElem? (i := 46) (by decide +kernel)) (List.mem_of_getElem? (i := 1226) (by decide +kernel)) rfl hs2 rfl rfl (by decide) (cat_cons rfl (cat_nil)) (Nat.le_of_ble_eq_true rfl) (PW.mono (kI_kN (fun r2 σ2 h => ?_)) h)
    refine pw_iconst (v := 1) dc_Mod_leads_141 (by decide) ?_
    obtain ⟨n1, hs3, h⟩ := h
    obtain ⟨hi1, h⟩ := h
    have h := h _ rfl
    refine pw_zast dc_Mod_leads_142 hs3 hi1 (Or.inr rfl) ?_
    refine PW.drop (ls' := [.ref x0, uu, .int x2, uu, .int y0, .int x5, .int x6, .int x7, uu]) ⟨Or.inl rfl, Or.inl rfl, Or.inl rfl, Or.inl rfl, Or.inl rfl, Or.inl rfl, Or.inl rfl, Or.inl rfl, Or.inr rfl, trivial⟩ ?_
    exact h
set_option maxRecDepth 20000 in
theorem e_Mod_leads_143 {d : Nat} {σ : PH} {K : PO → PH → Prop} (x0 : Nat) (x2 : Int32) (x4 : Int32) (x5 : Int32) (x6 : Int32) (x7 : Int32) (h : PW (d + 1) M_Mod_leads 68 [.ref x0, uu, .int x2, uu, .int x4, .int x5, .int x6, .int (x7 + 1), uu] [] σ K) : PW (d + 1) M_Mod_leads 143 [.ref x0, uu, .int x2, uu, .int x4, .int x5, .int x6, .int x7, uu] [] σ K := by
  refine pw_iincv (v := 1) dc_Mod_leads_143 (by decide) rfl (by decide) ?_
  refine pw_goto (tgt := 68) dc_Mod_leads_146 (by decide) ?_
  exact h
set_option maxRecDepth 20000 in
theorem e_Mod_leads_149 {d : Nat} {σ : PH} {K : PO → PH → Prop} (x0 : Nat) (x2 : Int32) (x4 : Int32) (x5 : Int32) (x6 : Int32) (h : PW (d + 1) M_Mod_leads 56 [.ref x0, uu, .int x2, uu, .int x4, .int x5, .int (x6 + 1), uu, uu] [] σ K) : PW (d + 1) M_Mod_leads 149 [.ref x0, uu, .int x2, uu, .int x4, .int x5, .int x6, uu, uu] [] σ K := by
  refine pw_iincv (v := 1) dc_Mod_leads_149 (by decide) rfl (by decide) ?_
  refine pw_goto (tgt := 56) dc_Mod_leads_152 (by decide) ?_
  exact h
theorem dc_Mod_hasMember_0 : decode M_Mod_hasMember.2.1 0 = .ok (.iconst 0, 1) := by decide +kernel
theorem dc_Mod_hasMember_1 : decode M_Mod_hasMember.2.1 1 = .ok (.istore_n 3, 1) := by decide +kernel
theorem dc_Mod_hasMember_2 : decode M_Mod_hasMember.2.1 2 = .ok (.iconst 0, 1) := by decide +kernel
theorem dc_Mod_hasMember_3 : decode M_Mod_hasMember.2.1 3 = .ok (.istore 4, 2) := by decide +kernel
theorem dc_Mod_hasMember_5 : decode M_Mod_hasMember.2.1 5 = .ok (.iload_n 1, 1) := by decide +kernel
theorem dc_Mod_hasMember_6 : decode M_Mod_hasMember.2.1 6 = .ok (.ifCond .lt 45, 3) := by decide +kernel
theorem dc_Mod_hasMember_9 : decode M_Mod_hasMember.2.1 9 = .ok (.iload 4, 2) := by decide +kernel
theorem dc_Mod_hasMember_11 : decode M_Mod_hasMember.2.1 11 = .ok (.aload_n 0, 1) := by decide +kernel
theorem dc_Mod_hasMember_12 : decode M_Mod_hasMember.2.1 12 = .ok (.getfield 46, 3) := by decide +kernel
theorem dc_Mod_hasMember_15 : decode M_Mod_hasMember.2.1 15 = .ok (.iload_n 1, 1) := by decide +kernel
theorem dc_Mod_hasMember_16 : decode M_Mod_hasMember.2.1 16 = .ok (.iaload, 1) := by decide +kernel
theorem dc_Mod_hasMember_17 : decode M_Mod_hasMember.2.1 17 = .ok (.if_icmp .ge 34, 3) := by decide +kernel
theorem dc_Mod_hasMember_20 : decode M_Mod_hasMember.2.1 20 = .ok (.iload_n 3, 1) := by decide +kernel
theorem dc_Mod_hasMember_21 : decode M_Mod_hasMember.2.1 21 = .ok (.ifCond .ne 18, 3) := by decide +kernel
theorem dc_Mod_hasMember_24 : decode M_Mod_hasMember.2.1 24 = .ok (.aload_n 0, 1) := by decide +kernel
theorem dc_Mod_hasMember_25 : decode M_Mod_hasMember.2.1 25 = .ok (.getfield 49, 3) := by decide +kernel
theorem dc_Mod_hasMember_28 : decode M_Mod_hasMember.2.1 28 = .ok (.iconst 4, 1) := by decide +kernel
theorem dc_Mod_hasMember_29 : decode M_Mod_hasMember.2.1 29 = .ok (.iload_n 1, 1) := by decide +kernel
theorem dc_Mod_hasMember_30 : decode M_Mod_hasMember.2.1 30 = .ok (.imul, 1) := by decide +kernel
theorem dc_Mod_hasMember_31 : decode M_Mod_hasMember.2.1 31 = .ok (.iload 4, 2) := by decide +kernel
theorem dc_Mod_hasMember_33 : decode M_Mod_hasMember.2.1 33 = .ok (.iadd, 1) := by decide +kernel
theorem dc_Mod_hasMember_34 : decode M_Mod_hasMember.2.1 34 = .ok (.iaload, 1) := by decide +kernel
theorem dc_Mod_hasMember_35 : decode M_Mod_hasMember.2.1 35 = .ok (.iload_n 2, 1) := by decide +kernel
theorem dc_Mod_hasMember_36 : decode M_Mod_hasMember.2.1 36 = .ok (.if_icmp .ne 7, 3) := by decide +kernel
theorem dc_Mod_hasMember_39 : decode M_Mod_hasMember.2.1 39 = .ok (.iconst 1, 1) := by decide +kernel
theorem dc_Mod_hasMember_40 : decode M_Mod_hasMember.2.1 40 = .ok (.goto 4, 3) := by decide +kernel
theorem dc_Mod_hasMember_43 : decode M_Mod_hasMember.2.1 43 = .ok (.iconst 0, 1) := by decide +kernel
theorem dc_Mod_hasMember_44 : decode M_Mod_hasMember.2.1 44 = .ok (.istore_n 3, 1) := by decide +kernel
theorem dc_Mod_hasMember_45 : decode M_Mod_hasMember.2.1 45 = .ok (.iinc 4 1, 3) := by decide +kernel
theorem dc_Mod_hasMember_48 : decode M_Mod_hasMember.2.1 48 = .ok (.goto (-43), 3) := by decide +kernel
theorem dc_Mod_hasMember_51 : decode M_Mod_hasMember.2.1 51 = .ok (.iload_n 3, 1) := by decide +kernel
theorem dc_Mod_hasMember_52 : decode M_Mod_hasMember.2.1 52 = .ok (.ireturn, 1) := by decide +kernel
set_option maxRecDepth 20000 in
theorem e_Mod_hasMember_0 {d : Nat} {σ : PH} {K : PO → PH → Prop} (x0 : Nat) (x1 : Int32) (x2 : Int32) (h : PW d M_Mod_hasMember 5 [.ref x0, .int x1, .int x2, .int 0, .int 0] [] σ K) : PW d M_Mod_hasMember 0 [.ref x0, .int x1, .int x2, uu, uu] [] σ K := by
  refine pw_iconst (v := 0) dc_Mod_hasMember_0 (by decide) ?_
  refine pw_istore_n dc_Mod_hasMember_1 (by decide) ?_
  refine pw_iconst (v := 0) dc_Mod_hasMember_2 (by decide) ?_
  refine pw_istore dc_Mod_hasMember_3 (by decide) ?_
  exact h
set_option maxRecDepth 20000 in
theorem e_Mod_hasMember_5 {d : Nat} {σ : PH} {K : PO → PH → Prop} (x0 : Nat) (x1 : Int32) (x2 : Int32) (x3 : Int32) (x4 : Int32) (h : (if x1 < 0 then bo x3 ∧ K (.inl (some (.int x3))) σ else sh σ x0 = (1, 11) ∧ (∃ b1 : Nat, gR σ 717 x0 = some b1 ∧ (∃ n1 : Nat, sh σ b1 = (2, n1) ∧ vp_in x1 n1 ∧ (if (eI σ b1 (ix x1)) ≤ x4 then bo x3 ∧ K (.inl (some (.int x3))) σ else (if x3 = 0 then (∃ b2 : Nat, gR σ 718 x0 = some b2 ∧ (∃ n2 : Nat, sh σ b2 = (2, n2) ∧ vp_in ((4 * x1) + x4) n2 ∧ (if (eI σ b2 (ix ((4 * x1) + x4))) = x2 then PW d M_Mod_hasMember 39 [.ref x0, .int x1, .int x2, uu, .int x4] [] σ K else PW d M_Mod_hasMember 44 [.ref x0, .int x1, .int x2, uu, .int x4] [.int 0] σ K))) else PW d M_Mod_hasMember 39 [.ref x0, .int x1, .int x2, uu, .int x4] [] σ K)))))) : PW d M_Mod_hasMember 5 [.ref x0, .int x1, .int x2, .int x3, .int x4] [] σ K := by
  refine pw_iload_n dc_Mod_hasMember_5 rfl ?_
  refine pw_if_lt (tgt := 51) dc_Mod_hasMember_6 (by decide) (fun hc => ?_) (fun hc => ?_)
  · have h := ite_t h hc
    refine pw_iload_n dc_Mod_hasMember_51 rfl ?_
    exact pw_iret dc_Mod_hasMember_52 rfl (bo_nar h.1) h.2
  · have h := ite_f h hc
    refine pw_iload dc_Mod_hasMember_9 rfl ?_
    refine pw_aload_n dc_Mod_hasMember_11 rfl rfl ?_
    obtain ⟨hs1, h⟩ := h
    refine pw_getR (c := 11) (k := 13) (f := 717) dc_Mod_hasMember_12 fl_Mod_46 rfl rfl hs1 ?_
    obtain ⟨b1, hb1, h⟩ := h
    refine PW.top (v' := .ref b1) (congrArg va_rf hb1) ?_
    refine pw_iload_n dc_Mod_hasMember_15 rfl ?_
    obtain ⟨n1, hs2, h⟩ := h
    obtain ⟨hi1, h⟩ := h
    refine pw_iald dc_Mod_hasMember_16 hs2 hi1 ?_
    refine pw_icmp_ge (tgt := 51) dc_Mod_hasMember_17 (by decide) (fun hc => ?_) (fun hc => ?_)
    · have h := ite_t h hc
      refine pw_iload_n dc_Mod_hasMember_51 rfl ?_
      exact pw_iret dc_Mod_hasMember_52 rfl (bo_nar h.1) h.2
    · have h := ite_f h hc
      refine pw_iload_n dc_Mod_hasMember_20 rfl ?_
      refine pw_if_ne (tgt := 39) dc_Mod_hasMember_21 (by decide) (fun hc => ?_) (fun hc => ?_)
      · have h := ite_f h hc
        refine PW.drop (ls' := [.ref x0, .int x1, .int x2, uu, .int x4]) ⟨Or.inl rfl, Or.inl rfl, Or.inl rfl, Or.inr rfl, Or.inl rfl, trivial⟩ ?_
        exact h
      · have h := ite_t h hc
        refine pw_aload_n dc_Mod_hasMember_24 rfl rfl ?_
        refine pw_getR (c := 11) (k := 14) (f := 718) dc_Mod_hasMember_25 fl_Mod_49 rfl rfl hs1 ?_
        obtain ⟨b2, hb2, h⟩ := h
        refine PW.top (v' := .ref b2) (congrArg va_rf hb2) ?_
        refine pw_iconst (v := 4) dc_Mod_hasMember_28 (by decide) ?_
        refine pw_iload_n dc_Mod_hasMember_29 rfl ?_
        refine pw_imul dc_Mod_hasMember_30 ?_
        refine pw_iload dc_Mod_hasMember_31 rfl ?_
        refine pw_iadd dc_Mod_hasMember_33 ?_
        obtain ⟨n2, hs3, h⟩ := h
        obtain ⟨hi2, h⟩ := h
        refine pw_iald dc_Mod_hasMember_34 hs3 hi2 ?_
        refine pw_iload_n dc_Mod_hasMember_35 rfl ?_
        refine pw_icmp_ne (tgt := 43) dc_Mod_hasMember_36 (by decide) (fun hc => ?_) (fun hc => ?_)
        · have h := ite_f h hc
          refine pw_iconst (v := 0) dc_Mod_hasMember_43 (by decide) ?_
          refine PW.drop (ls' := [.ref x0, .int x1, .int x2, uu, .int x4]) ⟨Or.inl rfl, Or.inl rfl, Or.inl rfl, Or.inr rfl, Or.inl rfl, trivial⟩ ?_
          exact h
        · have h := ite_t h hc
          refine PW.drop (ls' := [.ref x0, .int x1, .int x2, uu, .int x4]) ⟨Or.inl rfl, Or.inl rfl, Or.inl rfl, Or.inr rfl, Or.inl rfl, trivial⟩ ?_
          exact h
set_option maxRecDepth 20000 in
theorem e_Mod_hasMember_39 {d : Nat} {σ : PH} {K : PO → PH → Prop} (x0 : Nat) (x1 : Int32) (x2 : Int32) (x4 : Int32) (h : PW d M_Mod_hasMember 44 [.ref x0, .int x1, .int x2, uu, .int x4] [.int 1] σ K) : PW d M_Mod_hasMember 39 [.ref x0, .int x1, .int x2, uu, .int x4] [] σ K := by
  refine pw_iconst (v := 1) dc_Mod_hasMember_39 (by decide) ?_
  refine pw_goto (tgt := 44) dc_Mod_hasMember_40 (by decide) ?_
  exact h
set_option maxRecDepth 20000 in
theorem e_Mod_hasMember_44 {d : Nat} {σ : PH} {K : PO → PH → Prop} (x0 : Nat) (x1 : Int32) (x2 : Int32) (x4 : Int32) (y0 : Int32) (h : PW d M_Mod_hasMember 5 [.ref x0, .int x1, .int x2, .int y0, .int (x4 + 1)] [] σ K) : PW d M_Mod_hasMember 44 [.ref x0, .int x1, .int x2, uu, .int x4] [.int y0] σ K := by
  refine pw_istore_n dc_Mod_hasMember_44 (by decide) ?_
  refine pw_iincv (v := 1) dc_Mod_hasMember_45 (by decide) rfl (by decide) ?_
  refine pw_goto (tgt := 5) dc_Mod_hasMember_48 (by decide) ?_
  exact h
theorem dc_Mod_group_0 : decode M_Mod_group.2.1 0 = .ok (.iload_n 1, 1) := by decide +kernel
theorem dc_Mod_group_1 : decode M_Mod_group.2.1 1 = .ok (.invokestatic 267, 3) := by decide +kernel
theorem dc_Mod_group_4 : decode M_Mod_group.2.1 4 = .ok (.ifCond .eq 19, 3) := by decide +kernel
theorem dc_Mod_group_7 : decode M_Mod_group.2.1 7 = .ok (.iload_n 2, 1) := by decide +kernel
theorem dc_Mod_group_8 : decode M_Mod_group.2.1 8 = .ok (.invokestatic 267, 3) := by decide +kernel
theorem dc_Mod_group_11 : decode M_Mod_group.2.1 11 = .ok (.ifCond .eq 12, 3) := by decide +kernel
theorem dc_Mod_group_14 : decode M_Mod_group.2.1 14 = .ok (.iload_n 1, 1) := by decide +kernel
theorem dc_Mod_group_15 : decode M_Mod_group.2.1 15 = .ok (.iload_n 2, 1) := by decide +kernel
theorem dc_Mod_group_16 : decode M_Mod_group.2.1 16 = .ok (.if_icmp .eq 7, 3) := by decide +kernel
theorem dc_Mod_group_19 : decode M_Mod_group.2.1 19 = .ok (.iconst 1, 1) := by decide +kernel
theorem dc_Mod_group_20 : decode M_Mod_group.2.1 20 = .ok (.goto 4, 3) := by decide +kernel
theorem dc_Mod_group_23 : decode M_Mod_group.2.1 23 = .ok (.iconst 0, 1) := by decide +kernel
theorem dc_Mod_group_24 : decode M_Mod_group.2.1 24 = .ok (.istore_n 3, 1) := by decide +kernel
theorem dc_Mod_group_25 : decode M_Mod_group.2.1 25 = .ok (.iload_n 3, 1) := by decide +kernel
theorem dc_Mod_group_26 : decode M_Mod_group.2.1 26 = .ok (.ifCond .eq 11, 3) := by decide +kernel
theorem dc_Mod_group_29 : decode M_Mod_group.2.1 29 = .ok (.aload_n 0, 1) := by decide +kernel
theorem dc_Mod_group_30 : decode M_Mod_group.2.1 30 = .ok (.iload_n 1, 1) := by decide +kernel
theorem dc_Mod_group_31 : decode M_Mod_group.2.1 31 = .ok (.invokevirtual 270, 3) := by decide +kernel
theorem dc_Mod_group_34 : decode M_Mod_group.2.1 34 = .ok (.goto 4, 3) := by decide +kernel
theorem dc_Mod_group_37 : decode M_Mod_group.2.1 37 = .ok (.iconst (-1), 1) := by decide +kernel
theorem dc_Mod_group_38 : decode M_Mod_group.2.1 38 = .ok (.istore 4, 2) := by decide +kernel
theorem dc_Mod_group_40 : decode M_Mod_group.2.1 40 = .ok (.iload_n 3, 1) := by decide +kernel
theorem dc_Mod_group_41 : decode M_Mod_group.2.1 41 = .ok (.ifCond .eq 42, 3) := by decide +kernel
theorem dc_Mod_group_44 : decode M_Mod_group.2.1 44 = .ok (.iload 4, 2) := by decide +kernel
theorem dc_Mod_group_46 : decode M_Mod_group.2.1 46 = .ok (.ifCond .lt 14, 3) := by decide +kernel
theorem dc_Mod_group_49 : decode M_Mod_group.2.1 49 = .ok (.aload_n 0, 1) := by decide +kernel
theorem dc_Mod_group_50 : decode M_Mod_group.2.1 50 = .ok (.getfield 37, 3) := by decide +kernel
theorem dc_Mod_group_53 : decode M_Mod_group.2.1 53 = .ok (.iload 4, 2) := by decide +kernel
theorem dc_Mod_group_55 : decode M_Mod_group.2.1 55 = .ok (.iaload, 1) := by decide +kernel
theorem dc_Mod_group_56 : decode M_Mod_group.2.1 56 = .ok (.iconst 2, 1) := by decide +kernel
theorem dc_Mod_group_57 : decode M_Mod_group.2.1 57 = .ok (.if_icmp .ne 26, 3) := by decide +kernel
theorem dc_Mod_group_60 : decode M_Mod_group.2.1 60 = .ok (.aload_n 0, 1) := by decide +kernel
theorem dc_Mod_group_61 : decode M_Mod_group.2.1 61 = .ok (.iload 4, 2) := by decide +kernel
theorem dc_Mod_group_63 : decode M_Mod_group.2.1 63 = .ok (.iload_n 2, 1) := by decide +kernel
theorem dc_Mod_group_64 : decode M_Mod_group.2.1 64 = .ok (.invokevirtual 276, 3) := by decide +kernel
theorem dc_Mod_group_67 : decode M_Mod_group.2.1 67 = .ok (.ifCond .ne 16, 3) := by decide +kernel
theorem dc_Mod_group_70 : decode M_Mod_group.2.1 70 = .ok (.aload_n 0, 1) := by decide +kernel
theorem dc_Mod_group_71 : decode M_Mod_group.2.1 71 = .ok (.iload_n 2, 1) := by decide +kernel
theorem dc_Mod_group_72 : decode M_Mod_group.2.1 72 = .ok (.iload_n 1, 1) := by decide +kernel
theorem dc_Mod_group_73 : decode M_Mod_group.2.1 73 = .ok (.invokevirtual 279, 3) := by decide +kernel
theorem dc_Mod_group_76 : decode M_Mod_group.2.1 76 = .ok (.ifCond .ne 7, 3) := by decide +kernel
theorem dc_Mod_group_79 : decode M_Mod_group.2.1 79 = .ok (.iconst 1, 1) := by decide +kernel
theorem dc_Mod_group_80 : decode M_Mod_group.2.1 80 = .ok (.goto 4, 3) := by decide +kernel
theorem dc_Mod_group_83 : decode M_Mod_group.2.1 83 = .ok (.iconst 0, 1) := by decide +kernel
theorem dc_Mod_group_84 : decode M_Mod_group.2.1 84 = .ok (.istore_n 3, 1) := by decide +kernel
theorem dc_Mod_group_85 : decode M_Mod_group.2.1 85 = .ok (.aload_n 0, 1) := by decide +kernel
theorem dc_Mod_group_86 : decode M_Mod_group.2.1 86 = .ok (.iload_n 3, 1) := by decide +kernel
theorem dc_Mod_group_87 : decode M_Mod_group.2.1 87 = .ok (.ifCond .ne 7, 3) := by decide +kernel
theorem dc_Mod_group_90 : decode M_Mod_group.2.1 90 = .ok (.iconst 1, 1) := by decide +kernel
theorem dc_Mod_group_91 : decode M_Mod_group.2.1 91 = .ok (.goto 38, 3) := by decide +kernel
theorem dc_Mod_group_94 : decode M_Mod_group.2.1 94 = .ok (.iload 4, 2) := by decide +kernel
theorem dc_Mod_group_96 : decode M_Mod_group.2.1 96 = .ok (.ifCond .ge 12, 3) := by decide +kernel
theorem dc_Mod_group_99 : decode M_Mod_group.2.1 99 = .ok (.aload_n 0, 1) := by decide +kernel
theorem dc_Mod_group_100 : decode M_Mod_group.2.1 100 = .ok (.getfield 263, 3) := by decide +kernel
theorem dc_Mod_group_103 : decode M_Mod_group.2.1 103 = .ok (.bipush 12, 2) := by decide +kernel
theorem dc_Mod_group_105 : decode M_Mod_group.2.1 105 = .ok (.if_icmp .eq 19, 3) := by decide +kernel
theorem dc_Mod_group_108 : decode M_Mod_group.2.1 108 = .ok (.iload 4, 2) := by decide +kernel
theorem dc_Mod_group_110 : decode M_Mod_group.2.1 110 = .ok (.ifCond .lt 18, 3) := by decide +kernel
theorem dc_Mod_group_113 : decode M_Mod_group.2.1 113 = .ok (.aload_n 0, 1) := by decide +kernel
theorem dc_Mod_group_114 : decode M_Mod_group.2.1 114 = .ok (.getfield 46, 3) := by decide +kernel
theorem dc_Mod_group_117 : decode M_Mod_group.2.1 117 = .ok (.iload 4, 2) := by decide +kernel
theorem dc_Mod_group_119 : decode M_Mod_group.2.1 119 = .ok (.iaload, 1) := by decide +kernel
theorem dc_Mod_group_120 : decode M_Mod_group.2.1 120 = .ok (.iconst 4, 1) := by decide +kernel
theorem dc_Mod_group_121 : decode M_Mod_group.2.1 121 = .ok (.if_icmp .ne 7, 3) := by decide +kernel
theorem dc_Mod_group_124 : decode M_Mod_group.2.1 124 = .ok (.iconst 2, 1) := by decide +kernel
theorem dc_Mod_group_125 : decode M_Mod_group.2.1 125 = .ok (.goto 4, 3) := by decide +kernel
theorem dc_Mod_group_128 : decode M_Mod_group.2.1 128 = .ok (.iconst 0, 1) := by decide +kernel
theorem dc_Mod_group_129 : decode M_Mod_group.2.1 129 = .ok (.invokevirtual 164, 3) := by decide +kernel
theorem dc_Mod_group_132 : decode M_Mod_group.2.1 132 = .ok (.ifCond .eq 5, 3) := by decide +kernel
theorem dc_Mod_group_135 : decode M_Mod_group.2.1 135 = .ok (.iconst 0, 1) := by decide +kernel
theorem dc_Mod_group_136 : decode M_Mod_group.2.1 136 = .ok (.ireturn, 1) := by decide +kernel
theorem dc_Mod_group_137 : decode M_Mod_group.2.1 137 = .ok (.iload 4, 2) := by decide +kernel
theorem dc_Mod_group_139 : decode M_Mod_group.2.1 139 = .ok (.ifCond .ge 12, 3) := by decide +kernel
theorem dc_Mod_group_142 : decode M_Mod_group.2.1 142 = .ok (.aload_n 0, 1) := by decide +kernel
theorem dc_Mod_group_143 : decode M_Mod_group.2.1 143 = .ok (.iload_n 1, 1) := by decide +kernel
theorem dc_Mod_group_144 : decode M_Mod_group.2.1 144 = .ok (.iconst 2, 1) := by decide +kernel
theorem dc_Mod_group_145 : decode M_Mod_group.2.1 145 = .ok (.invokevirtual 273, 3) := by decide +kernel
theorem dc_Mod_group_148 : decode M_Mod_group.2.1 148 = .ok (.goto 5, 3) := by decide +kernel
theorem dc_Mod_group_151 : decode M_Mod_group.2.1 151 = .ok (.iload 4, 2) := by decide +kernel
theorem dc_Mod_group_153 : decode M_Mod_group.2.1 153 = .ok (.istore 4, 2) := by decide +kernel
theorem dc_Mod_group_155 : decode M_Mod_group.2.1 155 = .ok (.aload_n 0, 1) := by decide +kernel
theorem dc_Mod_group_156 : decode M_Mod_group.2.1 156 = .ok (.getfield 49, 3) := by decide +kernel
theorem dc_Mod_group_159 : decode M_Mod_group.2.1 159 = .ok (.iconst 4, 1) := by decide +kernel
theorem dc_Mod_group_160 : decode M_Mod_group.2.1 160 = .ok (.iload 4, 2) := by decide +kernel
theorem dc_Mod_group_162 : decode M_Mod_group.2.1 162 = .ok (.imul, 1) := by decide +kernel
theorem dc_Mod_group_163 : decode M_Mod_group.2.1 163 = .ok (.aload_n 0, 1) := by decide +kernel
theorem dc_Mod_group_164 : decode M_Mod_group.2.1 164 = .ok (.getfield 46, 3) := by decide +kernel
theorem dc_Mod_group_167 : decode M_Mod_group.2.1 167 = .ok (.iload 4, 2) := by decide +kernel
theorem dc_Mod_group_169 : decode M_Mod_group.2.1 169 = .ok (.iaload, 1) := by decide +kernel
theorem dc_Mod_group_170 : decode M_Mod_group.2.1 170 = .ok (.iadd, 1) := by decide +kernel
theorem dc_Mod_group_171 : decode M_Mod_group.2.1 171 = .ok (.iload_n 2, 1) := by decide +kernel
theorem dc_Mod_group_172 : decode M_Mod_group.2.1 172 = .ok (.iastore, 1) := by decide +kernel
theorem dc_Mod_group_173 : decode M_Mod_group.2.1 173 = .ok (.aload_n 0, 1) := by decide +kernel
theorem dc_Mod_group_174 : decode M_Mod_group.2.1 174 = .ok (.getfield 46, 3) := by decide +kernel
theorem dc_Mod_group_177 : decode M_Mod_group.2.1 177 = .ok (.iload 4, 2) := by decide +kernel
theorem dc_Mod_group_179 : decode M_Mod_group.2.1 179 = .ok (.dup2, 1) := by decide +kernel
theorem dc_Mod_group_180 : decode M_Mod_group.2.1 180 = .ok (.iaload, 1) := by decide +kernel
theorem dc_Mod_group_181 : decode M_Mod_group.2.1 181 = .ok (.iconst 1, 1) := by decide +kernel
theorem dc_Mod_group_182 : decode M_Mod_group.2.1 182 = .ok (.iadd, 1) := by decide +kernel
theorem dc_Mod_group_183 : decode M_Mod_group.2.1 183 = .ok (.iastore, 1) := by decide +kernel
theorem dc_Mod_group_184 : decode M_Mod_group.2.1 184 = .ok (.aload_n 0, 1) := by decide +kernel
theorem dc_Mod_group_185 : decode M_Mod_group.2.1 185 = .ok (.getfield 46, 3) := by decide +kernel
theorem dc_Mod_group_188 : decode M_Mod_group.2.1 188 = .ok (.iload 4, 2) := by decide +kernel
theorem dc_Mod_group_190 : decode M_Mod_group.2.1 190 = .ok (.iaload, 1) := by decide +kernel
theorem dc_Mod_group_191 : decode M_Mod_group.2.1 191 = .ok (.ireturn, 1) := by decide +kernel
set_option maxRecDepth 20000 in
theorem e_Mod_group_0 {d : Nat} {σ : PH} {K : PO → PH → Prop} (x0 : Nat) (x1 : Int32) (x2 : Int32) (h : PW d M_Mod_isCode 0 [.int x1] [] σ (kI (fun r1 σ1 => (if r1 = 0 then PW (d + 1) M_Mod_group 23 [.ref x0, .int x1, .int x2, uu, uu] [] σ1 K else PW d M_Mod_isCode 0 [.int x2] [] σ1 (kI (fun r2 σ2 => (if r2 = 0 then PW (d + 1) M_Mod_group 23 [.ref x0, .int x1, .int x2, uu, uu] [] σ2 K else (if x1 = x2 then PW (d + 1) M_Mod_group 23 [.ref x0, .int x1, .int x2, uu, uu] [] σ2 K else PW (d + 1) M_Mod_group 24 [.ref x0, .int x1, .int x2, uu, uu] [.int 1] σ2 K))) K))) K)) : PW (d + 1) M_Mod_group 0 [.ref x0, .int x1, .int x2, uu, uu] [] σ K := by
  refine pw_iload_n dc_Mod_group_0 rfl ?_
  refine pw_callS (vs := [.int x1]) (st := []) dc_Mod_group_1 cq_Mod_isCode (List.mem_of_getElem? (i := 1251) (by decide +kernel)) (List.mem_of_getElem? (i := 1250) (by decide +kernel)) rfl rfl (cat_cons rfl (cat_nil)) (Nat.le_of_ble_eq_true rfl) (PW.mono (kI_kN (fun r1 σ1 h => ?_)) h)
  refine pw_if_eq (tgt := 23) dc_Mod_group_4 (by decide) (fun hc => ?_) (fun hc => ?_)
  · have h := ite_t h hc
    exact h
  · have h := ite_f h hc
    refine pw_iload_n dc_Mod_group_7 rfl ?_
    refine pw_callS (vs := [.int x2]) (st := []) dc_Mod_group_8 cq_Mod_isCode (List.mem_of_getElem? (i := 1251) (by decide +kernel)) (List.mem_of_getElem? (i := 1250) (by decide +kernel)) rfl rfl (cat_cons rfl (cat_nil)) (Nat.le_of_ble_eq_true rfl) (PW.mono (kI_kN (fun r2 σ2 h => ?_)) h)
    refine pw_if_eq (tgt := 23) dc_Mod_group_11 (by decide) (fun hc => ?_) (fun hc => ?_)
    · have h := ite_t h hc
      exact h
    · have h := ite_f h hc
      refine pw_iload_n dc_Mod_group_14 rfl ?_
      refine pw_iload_n dc_Mod_group_15 rfl ?_
      refine pw_icmp_eq (tgt := 23) dc_Mod_group_16 (by decide) (fun hc => ?_) (fun hc => ?_)
      · have h := ite_t h hc
        exact h
      · have h := ite_f h hc
        refine pw_iconst (v := 1) dc_Mod_group_19 (by decide) ?_
        refine pw_goto (tgt := 24) dc_Mod_group_20 (by decide) ?_
        exact h
set_option maxRecDepth 20000 in
theorem e_Mod_group_23 {d : Nat} {σ : PH} {K : PO → PH → Prop} (x0 : Nat) (x1 : Int32) (x2 : Int32) (h : PW (d + 1) M_Mod_group 24 [.ref x0, .int x1, .int x2, uu, uu] [.int 0] σ K) : PW (d + 1) M_Mod_group 23 [.ref x0, .int x1, .int x2, uu, uu] [] σ K := by
  refine pw_iconst (v := 0) dc_Mod_group_23 (by decide) ?_
  exact h
set_option maxRecDepth 20000 in
theorem e_Mod_group_24 {d : Nat} {σ : PH} {K : PO → PH → Prop} (x0 : Nat) (x1 : Int32) (x2 : Int32) (y0 : Int32) (h : (if y0 = 0 then PW (d + 1) M_Mod_group 38 [.ref x0, .int x1, .int x2, .int y0, uu] [.int ((-1))] σ K else sh σ x0 = (1, 11) ∧ PW d M_Mod_routeAt 0 [.ref x0, .int x1, uu, uu] [] σ (kI (fun r1 σ1 => PW (d + 1) M_Mod_group 38 [.ref x0, .int x1, .int x2, .int y0, uu] [.int r1] σ1 K) K))) : PW (d + 1) M_Mod_group 24 [.ref x0, .int x1, .int x2, uu, uu] [.int y0] σ K := by
  refine pw_istore_n dc_Mod_group_24 (by decide) ?_
  refine pw_iload_n dc_Mod_group_25 rfl ?_
  refine pw_if_eq (tgt := 37) dc_Mod_group_26 (by decide) (fun hc => ?_) (fun hc => ?_)
  · have h := ite_t h hc
    refine pw_iconst (v := (-1)) dc_Mod_group_37 (by decide) ?_
    exact h
  · have h := ite_f h hc
    refine pw_aload_n dc_Mod_group_29 rfl rfl ?_
    refine pw_iload_n dc_Mod_group_30 rfl ?_
    obtain ⟨hs1, h⟩ := h
    refine pw_callV (vs := [.int x1]) (st := []) (b := x0) (cn := 11) dc_Mod_group_31 cq_Mod_routeAt (List.mem_of_getElem? (i := 1228) (by decide +kernel)) (List.mem_of_getElem? (i := 46) (by decide +kernel)) (List.mem_of_getElem? (i := 1226) (by decide +kernel)) rfl hs1 rfl rfl (by decide) (cat_cons rfl (cat_nil)) (Nat.le_of_ble_eq_true rfl) (PW.mono (kI_kN (fun r1 σ1 h => ?_)) h)
    refine pw_goto (tgt := 38) dc_Mod_group_34 (by decide) ?_
    exact h
set_option maxRecDepth 20000 in
theorem e_Mod_group_38 {d : Nat} {σ : PH} {K : PO → PH → Prop} (x0 : Nat) (x1 : Int32) (x2 : Int32) (x3 : Int32) (y0 : Int32) (h : (if x3 = 0 then PW (d + 1) M_Mod_group 83 [.ref x0, .int x1, .int x2, uu, .int y0] [] σ K else (if y0 < 0 then PW (d + 1) M_Mod_group 60 [.ref x0, .int x1, .int x2, uu, .int y0] [] σ K else sh σ x0 = (1, 11) ∧ (∃ b1 : Nat, gR σ 714 x0 = some b1 ∧ (∃ n1 : Nat, sh σ b1 = (2, n1) ∧ vp_in y0 n1 ∧ (if (eI σ b1 (ix y0)) = 2 then PW (d + 1) M_Mod_group 60 [.ref x0, .int x1, .int x2, uu, .int y0] [] σ K else PW (d + 1) M_Mod_group 83 [.ref x0, .int x1, .int x2, uu, .int y0] [] σ K)))))) : PW (d + 1) M_Mod_group 38 [.ref x0, .int x1, .int x2, .int x3, uu] [.int y0] σ K := by
  refine pw_istore dc_Mod_group_38 (by decide) ?_
  refine pw_iload_n dc_Mod_group_40 rfl ?_
  refine pw_if_eq (tgt := 83) dc_Mod_group_41 (by decide) (fun hc => ?_) (fun hc => ?_)
  · have h := ite_t h hc
    refine PW.drop (ls' := [.ref x0, .int x1, .int x2, uu, .int y0]) ⟨Or.inl rfl, Or.inl rfl, Or.inl rfl, Or.inr rfl, Or.inl rfl, trivial⟩ ?_
    exact h
  · have h := ite_f h hc
    refine pw_iload dc_Mod_group_44 rfl ?_
    refine pw_if_lt (tgt := 60) dc_Mod_group_46 (by decide) (fun hc => ?_) (fun hc => ?_)
    · have h := ite_t h hc
      refine PW.drop (ls' := [.ref x0, .int x1, .int x2, uu, .int y0]) ⟨Or.inl rfl, Or.inl rfl, Or.inl rfl, Or.inr rfl, Or.inl rfl, trivial⟩ ?_
      exact h
    · have h := ite_f h hc
      refine pw_aload_n dc_Mod_group_49 rfl rfl ?_
      obtain ⟨hs1, h⟩ := h
      refine pw_getR (c := 11) (k := 10) (f := 714) dc_Mod_group_50 fl_Mod_37 rfl rfl hs1 ?_
      obtain ⟨b1, hb1, h⟩ := h
      refine PW.top (v' := .ref b1) (congrArg va_rf hb1) ?_
      refine pw_iload dc_Mod_group_53 rfl ?_
      obtain ⟨n1, hs2, h⟩ := h
      obtain ⟨hi1, h⟩ := h
      refine pw_iald dc_Mod_group_55 hs2 hi1 ?_
      refine pw_iconst (v := 2) dc_Mod_group_56 (by decide) ?_
      refine pw_icmp_ne (tgt := 83) dc_Mod_group_57 (by decide) (fun hc => ?_) (fun hc => ?_)
      · have h := ite_f h hc
        refine PW.drop (ls' := [.ref x0, .int x1, .int x2, uu, .int y0]) ⟨Or.inl rfl, Or.inl rfl, Or.inl rfl, Or.inr rfl, Or.inl rfl, trivial⟩ ?_
        exact h
      · have h := ite_t h hc
        refine PW.drop (ls' := [.ref x0, .int x1, .int x2, uu, .int y0]) ⟨Or.inl rfl, Or.inl rfl, Or.inl rfl, Or.inr rfl, Or.inl rfl, trivial⟩ ?_
        exact h
set_option maxRecDepth 20000 in
theorem e_Mod_group_60 {d : Nat} {σ : PH} {K : PO → PH → Prop} (x0 : Nat) (x1 : Int32) (x2 : Int32) (x4 : Int32) (h : sh σ x0 = (1, 11) ∧ PW d M_Mod_hasMember 0 [.ref x0, .int x4, .int x2, uu, uu] [] σ (kI (fun r1 σ1 => (if r1 = 0 then sh σ1 x0 = (1, 11) ∧ PW d M_Mod_leads 0 [.ref x0, .int x2, .int x1, uu, uu, uu, uu, uu, uu] [] σ1 (kI (fun r2 σ2 => (if r2 = 0 then PW (d + 1) M_Mod_group 84 [.ref x0, .int x1, .int x2, uu, .int x4] [.int 1] σ2 K else PW (d + 1) M_Mod_group 83 [.ref x0, .int x1, .int x2, uu, .int x4] [] σ2 K)) K) else PW (d + 1) M_Mod_group 83 [.ref x0, .int x1, .int x2, uu, .int x4] [] σ1 K)) K)) : PW (d + 1) M_Mod_group 60 [.ref x0, .int x1, .int x2, uu, .int x4] [] σ K := by
  refine pw_aload_n dc_Mod_group_60 rfl rfl ?_
  refine pw_iload dc_Mod_group_61 rfl ?_
  refine pw_iload_n dc_Mod_group_63 rfl ?_
  obtain ⟨hs1, h⟩ := h
  refine pw_callV (vs := [.int x4, .int x2]) (st := []) (b := x0) (cn := 11) dc_Mod_group_64 cq_Mod_hasMember (List.mem_of_getElem? (i := 1264) (by decide +kernel)) (List.mem_of_getElem? (i := 50) (by decide +kernel)) (List.mem_of_getElem? (i := 1262) (by decide +kernel)) rfl hs1 rfl rfl (by decide) (cat_cons rfl (cat_cons rfl (cat_nil))) (Nat.le_of_ble_eq_true rfl) (PW.mono (kI_kN (fun r1 σ1 h => ?_)) h)
  refine pw_if_ne (tgt := 83) dc_Mod_group_67 (by decide) (fun hc => ?_) (fun hc => ?_)
  · have h := ite_f h hc
    exact h
  · have h := ite_t h hc
    refine pw_aload_n dc_Mod_group_70 rfl rfl ?_
    refine pw_iload_n dc_Mod_group_71 rfl ?_
    refine pw_iload_n dc_Mod_group_72 rfl ?_
    obtain ⟨hs2, h⟩ := h
    refine pw_callV (vs := [.int x2, .int x1]) (st := []) (b := x0) (cn := 11) dc_Mod_group_73 cq_Mod_leads (List.mem_of_getElem? (i := 1268) (by decide +kernel)) (List.mem_of_getElem? (i := 51) (by decide +kernel)) (List.mem_of_getElem? (i := 1266) (by decide +kernel)) rfl hs2 rfl rfl (by decide) (cat_cons rfl (cat_cons rfl (cat_nil))) (Nat.le_of_ble_eq_true rfl) (PW.mono (kI_kN (fun r2 σ2 h => ?_)) h)
    refine pw_if_ne (tgt := 83) dc_Mod_group_76 (by decide) (fun hc => ?_) (fun hc => ?_)
    · have h := ite_f h hc
      exact h
    · have h := ite_t h hc
      refine pw_iconst (v := 1) dc_Mod_group_79 (by decide) ?_
      refine pw_goto (tgt := 84) dc_Mod_group_80 (by decide) ?_
      exact h
set_option maxRecDepth 20000 in
theorem e_Mod_group_83 {d : Nat} {σ : PH} {K : PO → PH → Prop} (x0 : Nat) (x1 : Int32) (x2 : Int32) (x4 : Int32) (h : PW (d + 1) M_Mod_group 84 [.ref x0, .int x1, .int x2, uu, .int x4] [.int 0] σ K) : PW (d + 1) M_Mod_group 83 [.ref x0, .int x1, .int x2, uu, .int x4] [] σ K := by
  refine pw_iconst (v := 0) dc_Mod_group_83 (by decide) ?_
  exact h
set_option maxRecDepth 20000 in
theorem e_Mod_group_84 {d : Nat} {σ : PH} {K : PO → PH → Prop} (x0 : Nat) (x1 : Int32) (x2 : Int32) (x4 : Int32) (y0 : Int32) (h : (if y0 = 0 then PW (d + 1) M_Mod_group 129 [.ref x0, .int x1, .int x2, uu, .int x4] [.int 1, .ref x0] σ K else (if 0 ≤ x4 then PW (d + 1) M_Mod_group 108 [.ref x0, .int x1, .int x2, uu, .int x4] [.ref x0] σ K else sh σ x0 = (1, 11) ∧ (if (gI σ 712 x0) = 12 then PW (d + 1) M_Mod_group 124 [.ref x0, .int x1, .int x2, uu, .int x4] [.ref x0] σ K else PW (d + 1) M_Mod_group 108 [.ref x0, .int x1, .int x2, uu, .int x4] [.ref x0] σ K)))) : PW (d + 1) M_Mod_group 84 [.ref x0, .int x1, .int x2, uu, .int x4] [.int y0] σ K := by
  refine pw_istore_n dc_Mod_group_84 (by decide) ?_
  refine pw_aload_n dc_Mod_group_85 rfl rfl ?_
  refine pw_iload_n dc_Mod_group_86 rfl ?_
  refine pw_if_ne (tgt := 94) dc_Mod_group_87 (by decide) (fun hc => ?_) (fun hc => ?_)
  · have h := ite_f h hc
    refine pw_iload dc_Mod_group_94 rfl ?_
    refine pw_if_ge (tgt := 108) dc_Mod_group_96 (by decide) (fun hc => ?_) (fun hc => ?_)
    · have h := ite_t h hc
      refine PW.drop (ls' := [.ref x0, .int x1, .int x2, uu, .int x4]) ⟨Or.inl rfl, Or.inl rfl, Or.inl rfl, Or.inr rfl, Or.inl rfl, trivial⟩ ?_
      exact h
    · have h := ite_f h hc
      refine pw_aload_n dc_Mod_group_99 rfl rfl ?_
      obtain ⟨hs1, h⟩ := h
      refine pw_getI (c := 11) (k := 8) (f := 712) dc_Mod_group_100 fl_Mod_263 rfl rfl hs1 ?_
      refine pw_bipush (v := 12) dc_Mod_group_103 (by decide) ?_
      refine pw_icmp_eq (tgt := 124) dc_Mod_group_105 (by decide) (fun hc => ?_) (fun hc => ?_)
      · have h := ite_t h hc
        refine PW.drop (ls' := [.ref x0, .int x1, .int x2, uu, .int x4]) ⟨Or.inl rfl, Or.inl rfl, Or.inl rfl, Or.inr rfl, Or.inl rfl, trivial⟩ ?_
        exact h
      · have h := ite_f h hc
        refine PW.drop (ls' := [.ref x0, .int x1, .int x2, uu, .int x4]) ⟨Or.inl rfl, Or.inl rfl, Or.inl rfl, Or.inr rfl, Or.inl rfl, trivial⟩ ?_
        exact h
  · have h := ite_t h hc
    refine pw_iconst (v := 1) dc_Mod_group_90 (by decide) ?_
    refine pw_goto (tgt := 129) dc_Mod_group_91 (by decide) ?_
    refine PW.drop (ls' := [.ref x0, .int x1, .int x2, uu, .int x4]) ⟨Or.inl rfl, Or.inl rfl, Or.inl rfl, Or.inr rfl, Or.inl rfl, trivial⟩ ?_
    exact h
set_option maxRecDepth 20000 in
theorem e_Mod_group_108 {d : Nat} {σ : PH} {K : PO → PH → Prop} (x0 : Nat) (x1 : Int32) (x2 : Int32) (x4 : Int32) (y0 : Nat) (h : (if x4 < 0 then PW (d + 1) M_Mod_group 128 [.ref x0, .int x1, .int x2, uu, .int x4] [.ref y0] σ K else sh σ x0 = (1, 11) ∧ (∃ b1 : Nat, gR σ 717 x0 = some b1 ∧ (∃ n1 : Nat, sh σ b1 = (2, n1) ∧ vp_in x4 n1 ∧ (if (eI σ b1 (ix x4)) = 4 then PW (d + 1) M_Mod_group 124 [.ref x0, .int x1, .int x2, uu, .int x4] [.ref y0] σ K else PW (d + 1) M_Mod_group 128 [.ref x0, .int x1, .int x2, uu, .int x4] [.ref y0] σ K))))) : PW (d + 1) M_Mod_group 108 [.ref x0, .int x1, .int x2, uu, .int x4] [.ref y0] σ K := by
  refine pw_iload dc_Mod_group_108 rfl ?_
  refine pw_if_lt (tgt := 128) dc_Mod_group_110 (by decide) (fun hc => ?_) (fun hc => ?_)
  · have h := ite_t h hc
    exact h
  · have h := ite_f h hc
    refine pw_aload_n dc_Mod_group_113 rfl rfl ?_
    obtain ⟨hs1, h⟩ := h
    refine pw_getR (c := 11) (k := 13) (f := 717) dc_Mod_group_114 fl_Mod_46 rfl rfl hs1 ?_
    obtain ⟨b1, hb1, h⟩ := h
    refine PW.top (v' := .ref b1) (congrArg va_rf hb1) ?_
    refine pw_iload dc_Mod_group_117 rfl ?_
    obtain ⟨n1, hs2, h⟩ := h
    obtain ⟨hi1, h⟩ := h
    refine pw_iald dc_Mod_group_119 hs2 hi1 ?_
    refine pw_iconst (v := 4) dc_Mod_group_120 (by decide) ?_
    refine pw_icmp_ne (tgt := 128) dc_Mod_group_121 (by decide) (fun hc => ?_) (fun hc => ?_)
    · have h := ite_f h hc
      exact h
    · have h := ite_t h hc
      exact h
set_option maxRecDepth 20000 in
theorem e_Mod_group_124 {d : Nat} {σ : PH} {K : PO → PH → Prop} (x0 : Nat) (x1 : Int32) (x2 : Int32) (x4 : Int32) (y0 : Nat) (h : PW (d + 1) M_Mod_group 129 [.ref x0, .int x1, .int x2, uu, .int x4] [.int 2, .ref y0] σ K) : PW (d + 1) M_Mod_group 124 [.ref x0, .int x1, .int x2, uu, .int x4] [.ref y0] σ K := by
  refine pw_iconst (v := 2) dc_Mod_group_124 (by decide) ?_
  refine pw_goto (tgt := 129) dc_Mod_group_125 (by decide) ?_
  exact h
set_option maxRecDepth 20000 in
theorem e_Mod_group_128 {d : Nat} {σ : PH} {K : PO → PH → Prop} (x0 : Nat) (x1 : Int32) (x2 : Int32) (x4 : Int32) (y0 : Nat) (h : PW (d + 1) M_Mod_group 129 [.ref x0, .int x1, .int x2, uu, .int x4] [.int 0, .ref y0] σ K) : PW (d + 1) M_Mod_group 128 [.ref x0, .int x1, .int x2, uu, .int x4] [.ref y0] σ K := by
  refine pw_iconst (v := 0) dc_Mod_group_128 (by decide) ?_
  exact h
set_option maxRecDepth 20000 in
theorem e_Mod_group_129 {d : Nat} {σ : PH} {K : PO → PH → Prop} (x0 : Nat) (x1 : Int32) (x2 : Int32) (x4 : Int32) (y0 : Int32) (y1 : Nat) (h : sh σ y1 = (1, 11) ∧ PW d M_Mod_refused 0 [.ref y1, .int y0] [] σ (kI (fun r1 σ1 => (if r1 = 0 then (if 0 ≤ x4 then PW (d + 1) M_Mod_group 153 [.ref x0, uu, .int x2, uu, uu] [.int x4] σ1 K else sh σ1 x0 = (1, 11) ∧ PW d M_Mod_addRoute 0 [.ref x0, .int x1, .int 2] [] σ1 (kI (fun r2 σ2 => PW (d + 1) M_Mod_group 153 [.ref x0, uu, .int x2, uu, uu] [.int r2] σ2 K) K)) else K (.inl (some (.int 0))) σ1)) K)) : PW (d + 1) M_Mod_group 129 [.ref x0, .int x1, .int x2, uu, .int x4] [.int y0, .ref y1] σ K := by
  obtain ⟨hs1, h⟩ := h
  refine pw_callV (vs := [.int y0]) (st := []) (b := y1) (cn := 11) dc_Mod_group_129 cq_Mod_refused (List.mem_of_getElem? (i := 1136) (by decide +kernel)) (List.mem_of_getElem? (i := 26) (by decide +kernel)) (List.mem_of_getElem? (i := 1134) (by decide +kernel)) rfl hs1 rfl rfl (by decide) (cat_cons rfl (cat_nil)) (Nat.le_of_ble_eq_true rfl) (PW.mono (kI_kN (fun r1 σ1 h => ?_)) h)
  refine pw_if_eq (tgt := 137) dc_Mod_group_132 (by decide) (fun hc => ?_) (fun hc => ?_)
  · have h := ite_t h hc
    refine pw_iload dc_Mod_group_137 rfl ?_
    refine pw_if_ge (tgt := 151) dc_Mod_group_139 (by decide) (fun hc => ?_) (fun hc => ?_)
    · have h := ite_t h hc
      refine pw_iload dc_Mod_group_151 rfl ?_
      refine PW.drop (ls' := [.ref x0, uu, .int x2, uu, uu]) ⟨Or.inl rfl, Or.inr rfl, Or.inl rfl, Or.inl rfl, Or.inr rfl, trivial⟩ ?_
      exact h
    · have h := ite_f h hc
      refine pw_aload_n dc_Mod_group_142 rfl rfl ?_
      refine pw_iload_n dc_Mod_group_143 rfl ?_
      refine pw_iconst (v := 2) dc_Mod_group_144 (by decide) ?_
      obtain ⟨hs2, h⟩ := h
      refine pw_callV (vs := [.int x1, .int 2]) (st := []) (b := x0) (cn := 11) dc_Mod_group_145 cq_Mod_addRoute (List.mem_of_getElem? (i := 1256) (by decide +kernel)) (List.mem_of_getElem? (i := 49) (by decide +kernel)) (List.mem_of_getElem? (i := 1254) (by decide +kernel)) rfl hs2 rfl rfl (by decide) (cat_cons rfl (cat_cons rfl (cat_nil))) (Nat.le_of_ble_eq_true rfl) (PW.mono (kI_kN (fun r2 σ2 h => ?_)) h)
      refine pw_goto (tgt := 153) dc_Mod_group_148 (by decide) ?_
      refine PW.drop (ls' := [.ref x0, uu, .int x2, uu, uu]) ⟨Or.inl rfl, Or.inr rfl, Or.inl rfl, Or.inl rfl, Or.inr rfl, trivial⟩ ?_
      exact h
  · have h := ite_f h hc
    refine pw_iconst (v := 0) dc_Mod_group_135 (by decide) ?_
    exact pw_iret dc_Mod_group_136 rfl rfl h
set_option maxRecDepth 20000 in
theorem e_Mod_group_153 {d : Nat} {σ : PH} {K : PO → PH → Prop} (x0 : Nat) (x2 : Int32) (y0 : Int32) (h : sh σ x0 = (1, 11) ∧ (∃ b1 : Nat, gR σ 718 x0 = some b1 ∧ (∃ b2 : Nat, gR σ 717 x0 = some b2 ∧ (∃ n1 : Nat, sh σ b2 = (2, n1) ∧ vp_in y0 n1 ∧ (∃ n2 : Nat, sh σ b1 = (2, n2) ∧ vp_in ((4 * y0) + (eI σ b2 (ix y0))) n2 ∧ (∀ σ1 : PH, σ1 = uI σ b1 (ix ((4 * y0) + (eI σ b2 (ix y0)))) x2 → sh σ1 x0 = (1, 11) ∧ (∃ b3 : Nat, gR σ1 717 x0 = some b3 ∧ (∃ n3 : Nat, sh σ1 b3 = (2, n3) ∧ vp_in y0 n3 ∧ vp_in y0 n3 ∧ (∀ σ2 : PH, σ2 = uI σ1 b3 (ix y0) ((eI σ1 b3 (ix y0)) + 1) → sh σ2 x0 = (1, 11) ∧ (∃ b4 : Nat, gR σ2 717 x0 = some b4 ∧ (∃ n4 : Nat, sh σ2 b4 = (2, n4) ∧ vp_in y0 n4 ∧ K (.inl (some (.int (eI σ2 b4 (ix y0))))) σ2))))))))))) : PW (d + 1) M_Mod_group 153 [.ref x0, uu, .int x2, uu, uu] [.int y0] σ K := by
  refine pw_istore dc_Mod_group_153 (by decide) ?_
  refine pw_aload_n dc_Mod_group_155 rfl rfl ?_
  obtain ⟨hs1, h⟩ := h
  refine pw_getR (c := 11) (k := 14) (f := 718) dc_Mod_group_156 fl_Mod_49 rfl rfl hs1 ?_
  obtain ⟨b1, hb1, h⟩ := h
  refine PW.top (v' := .ref b1) (congrArg va_rf hb1) ?_
  refine pw_iconst (v := 4) dc_Mod_group_159 (by decide) ?_
  refine pw_iload dc_Mod_group_160 rfl ?_
  refine pw_imul dc_Mod_group_162 ?_
  refine pw_aload_n dc_Mod_group_163 rfl rfl ?_
  refine pw_getR (c := 11) (k := 13) (f := 717) dc_Mod_group_164 fl_Mod_46 rfl rfl hs1 ?_
  obtain ⟨b2, hb2, h⟩ := h
  refine PW.top (v' := .ref b2) (congrArg va_rf hb2) ?_
  refine pw_iload dc_Mod_group_167 rfl ?_
  obtain ⟨n1, hs2, h⟩ := h
  obtain ⟨hi1, h⟩ := h
  refine pw_iald dc_Mod_group_169 hs2 hi1 ?_
  refine pw_iadd dc_Mod_group_170 ?_
  refine pw_iload_n dc_Mod_group_171 rfl ?_
  obtain ⟨n2, hs3, h⟩ := h
  obtain ⟨hi2, h⟩ := h
  have h := h _ rfl
  refine pw_iast dc_Mod_group_172 hs3 hi2 ?_
  refine pw_aload_n dc_Mod_group_173 rfl rfl ?_
  obtain ⟨hs4, h⟩ := h
  refine pw_getR (c := 11) (k := 13) (f := 717) dc_Mod_group_174 fl_Mod_46 rfl rfl hs4 ?_
  obtain ⟨b3, hb3, h⟩ := h
  refine PW.top (v' := .ref b3) (congrArg va_rf hb3) ?_
  refine pw_iload dc_Mod_group_177 rfl ?_
  refine pw_dup2 dc_Mod_group_179 rfl rfl ?_
  obtain ⟨n3, hs5, h⟩ := h
  obtain ⟨hi3, h⟩ := h
  refine pw_iald dc_Mod_group_180 hs5 hi3 ?_
  refine pw_iconst (v := 1) dc_Mod_group_181 (by decide) ?_
  refine pw_iadd dc_Mod_group_182 ?_
  obtain ⟨hi4, h⟩ := h
  have h := h _ rfl
  refine pw_iast dc_Mod_group_183 hs5 hi4 ?_
  refine pw_aload_n dc_Mod_group_184 rfl rfl ?_
  obtain ⟨hs6, h⟩ := h
  refine pw_getR (c := 11) (k := 13) (f := 717) dc_Mod_group_185 fl_Mod_46 rfl rfl hs6 ?_
  obtain ⟨b4, hb4, h⟩ := h
  refine PW.top (v' := .ref b4) (congrArg va_rf hb4) ?_
  refine pw_iload dc_Mod_group_188 rfl ?_
  obtain ⟨n4, hs7, h⟩ := h
  obtain ⟨hi5, h⟩ := h
  refine pw_iald dc_Mod_group_190 hs7 hi5 ?_
  exact pw_iret dc_Mod_group_191 rfl rfl h
