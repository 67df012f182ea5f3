theorem dc_Mod_reach_0 : decode M_Mod_reach.2.1 0 = .ok (.aload_n 0, 1) := by decide +kernel
theorem dc_Mod_reach_1 : decode M_Mod_reach.2.1 1 = .ok (.getfield 7, 3) := by decide +kernel
theorem dc_Mod_reach_4 : decode M_Mod_reach.2.1 4 = .ok (.iload_n 1, 1) := by decide +kernel
theorem dc_Mod_reach_5 : decode M_Mod_reach.2.1 5 = .ok (.baload, 1) := by decide +kernel
theorem dc_Mod_reach_6 : decode M_Mod_reach.2.1 6 = .ok (.ifCond .eq 16, 3) := by decide +kernel
theorem dc_Mod_reach_9 : decode M_Mod_reach.2.1 9 = .ok (.aload_n 0, 1) := by decide +kernel
theorem dc_Mod_reach_10 : decode M_Mod_reach.2.1 10 = .ok (.getfield 7, 3) := by decide +kernel
theorem dc_Mod_reach_13 : decode M_Mod_reach.2.1 13 = .ok (.iload_n 2, 1) := by decide +kernel
theorem dc_Mod_reach_14 : decode M_Mod_reach.2.1 14 = .ok (.baload, 1) := by decide +kernel
theorem dc_Mod_reach_15 : decode M_Mod_reach.2.1 15 = .ok (.ifCond .ne 7, 3) := by decide +kernel
theorem dc_Mod_reach_18 : decode M_Mod_reach.2.1 18 = .ok (.iconst 1, 1) := by decide +kernel
theorem dc_Mod_reach_19 : decode M_Mod_reach.2.1 19 = .ok (.goto 4, 3) := by decide +kernel
theorem dc_Mod_reach_22 : decode M_Mod_reach.2.1 22 = .ok (.iconst 0, 1) := by decide +kernel
theorem dc_Mod_reach_23 : decode M_Mod_reach.2.1 23 = .ok (.istore_n 3, 1) := by decide +kernel
theorem dc_Mod_reach_24 : decode M_Mod_reach.2.1 24 = .ok (.aload_n 0, 1) := by decide +kernel
theorem dc_Mod_reach_25 : decode M_Mod_reach.2.1 25 = .ok (.getfield 124, 3) := by decide +kernel
theorem dc_Mod_reach_28 : decode M_Mod_reach.2.1 28 = .ok (.iload_n 3, 1) := by decide +kernel
theorem dc_Mod_reach_29 : decode M_Mod_reach.2.1 29 = .ok (.ifCond .eq 7, 3) := by decide +kernel
theorem dc_Mod_reach_32 : decode M_Mod_reach.2.1 32 = .ok (.iload_n 2, 1) := by decide +kernel
theorem dc_Mod_reach_33 : decode M_Mod_reach.2.1 33 = .ok (.goto 4, 3) := by decide +kernel
theorem dc_Mod_reach_36 : decode M_Mod_reach.2.1 36 = .ok (.iload_n 1, 1) := by decide +kernel
theorem dc_Mod_reach_37 : decode M_Mod_reach.2.1 37 = .ok (.iconst 1, 1) := by decide +kernel
theorem dc_Mod_reach_38 : decode M_Mod_reach.2.1 38 = .ok (.bastore, 1) := by decide +kernel
theorem dc_Mod_reach_39 : decode M_Mod_reach.2.1 39 = .ok (.return_, 1) := by decide +kernel
set_option maxRecDepth 20000 in
theorem e_Mod_reach_0 {d : Nat} {σ : PH} {K : PO → PH → Prop} (x0 : Nat) (x1 : Int32) (x2 : Int32) (h : sh σ x0 = (1, 11) ∧ (∃ b1 : Nat, gR σ 705 x0 = some b1 ∧ (∃ n1 : Nat, sh σ b1 = (4, n1) ∧ vp_in x1 n1 ∧ (if (eI σ b1 (ix x1)) = 0 then PW d M_Mod_reach 22 [.ref x0, .int x1, .int x2, uu] [] σ K else vp_in x2 n1 ∧ (if (eI σ b1 (ix x2)) = 0 then PW d M_Mod_reach 23 [.ref x0, .int x1, .int x2, uu] [.int 1] σ K else PW d M_Mod_reach 22 [.ref x0, .int x1, .int x2, uu] [] σ K))))) : PW d M_Mod_reach 0 [.ref x0, .int x1, .int x2, uu] [] σ K := by
  refine pw_aload_n dc_Mod_reach_0 rfl rfl ?_
  obtain ⟨hs1, h⟩ := h
  refine pw_getR (c := 11) (k := 1) (f := 705) dc_Mod_reach_1 fl_Mod_7 rfl rfl hs1 ?_
  obtain ⟨b1, hb1, h⟩ := h
  refine PW.top (v' := .ref b1) (congrArg va_rf hb1) ?_
  refine pw_iload_n dc_Mod_reach_4 rfl ?_
  obtain ⟨n1, hs2, h⟩ := h
  obtain ⟨hi1, h⟩ := h
  refine pw_zald dc_Mod_reach_5 hs2 hi1 ?_
  refine pw_if_eq (tgt := 22) dc_Mod_reach_6 (by decide) (fun hc => ?_) (fun hc => ?_)
  · have h := ite_t h hc
    exact h
  · have h := ite_f h hc
    refine pw_aload_n dc_Mod_reach_9 rfl rfl ?_
    refine pw_getR (c := 11) (k := 1) (f := 705) dc_Mod_reach_10 fl_Mod_7 rfl rfl hs1 ?_
    refine PW.top (v' := .ref b1) (congrArg va_rf hb1) ?_
    refine pw_iload_n dc_Mod_reach_13 rfl ?_
    obtain ⟨hi2, h⟩ := h
    refine pw_zald dc_Mod_reach_14 hs2 hi2 ?_
    refine pw_if_ne (tgt := 22) dc_Mod_reach_15 (by decide) (fun hc => ?_) (fun hc => ?_)
    · have h := ite_f h hc
      exact h
    · have h := ite_t h hc
      refine pw_iconst (v := 1) dc_Mod_reach_18 (by decide) ?_
      refine pw_goto (tgt := 23) dc_Mod_reach_19 (by decide) ?_
      exact h
set_option maxRecDepth 20000 in
theorem e_Mod_reach_22 {d : Nat} {σ : PH} {K : PO → PH → Prop} (x0 : Nat) (x1 : Int32) (x2 : Int32) (h : PW d M_Mod_reach 23 [.ref x0, .int x1, .int x2, uu] [.int 0] σ K) : PW d M_Mod_reach 22 [.ref x0, .int x1, .int x2, uu] [] σ K := by
  refine pw_iconst (v := 0) dc_Mod_reach_22 (by decide) ?_
  exact h
set_option maxRecDepth 20000 in
theorem e_Mod_reach_23 {d : Nat} {σ : PH} {K : PO → PH → Prop} (x0 : Nat) (x1 : Int32) (x2 : Int32) (y0 : Int32) (h : sh σ x0 = (1, 11) ∧ (∃ b1 : Nat, gR σ 752 x0 = some b1 ∧ (if y0 = 0 then (∃ n1 : Nat, sh σ b1 = (4, n1) ∧ vp_in x1 n1 ∧ (∀ σ1 : PH, σ1 = uI σ b1 (ix x1) 1 → K (.inl none) σ1)) else (∃ n2 : Nat, sh σ b1 = (4, n2) ∧ vp_in x2 n2 ∧ (∀ σ2 : PH, σ2 = uI σ b1 (ix x2) 1 → K (.inl none) σ2))))) : PW d M_Mod_reach 23 [.ref x0, .int x1, .int x2, uu] [.int y0] σ K := by
  refine pw_istore_n dc_Mod_reach_23 (by decide) ?_
  refine pw_aload_n dc_Mod_reach_24 rfl rfl ?_
  obtain ⟨hs1, h⟩ := h
  refine pw_getR (c := 11) (k := 48) (f := 752) dc_Mod_reach_25 fl_Mod_124 rfl rfl hs1 ?_
  obtain ⟨b1, hb1, h⟩ := h
  refine PW.top (v' := .ref b1) (congrArg va_rf hb1) ?_
  refine pw_iload_n dc_Mod_reach_28 rfl ?_
  refine pw_if_eq (tgt := 36) dc_Mod_reach_29 (by decide) (fun hc => ?_) (fun hc => ?_)
  · have h := ite_t h hc
    refine pw_iload_n dc_Mod_reach_36 rfl ?_
    refine pw_iconst (v := 1) dc_Mod_reach_37 (by decide) ?_
    obtain ⟨n1, hs2, h⟩ := h
    obtain ⟨hi1, h⟩ := h
    have h := h _ rfl
    refine pw_zast dc_Mod_reach_38 hs2 hi1 (Or.inr rfl) ?_
    exact pw_vret dc_Mod_reach_39 rfl h
  · have h := ite_f h hc
    refine pw_iload_n dc_Mod_reach_32 rfl ?_
    refine pw_goto (tgt := 37) dc_Mod_reach_33 (by decide) ?_
    refine pw_iconst (v := 1) dc_Mod_reach_37 (by decide) ?_
    obtain ⟨n2, hs3, h⟩ := h
    obtain ⟨hi2, h⟩ := h
    have h := h _ rfl
    refine pw_zast dc_Mod_reach_38 hs3 hi2 (Or.inr rfl) ?_
    exact pw_vret dc_Mod_reach_39 rfl h
theorem dc_Mod_look_0 : decode M_Mod_look.2.1 0 = .ok (.aload_n 0, 1) := by decide +kernel
theorem dc_Mod_look_1 : decode M_Mod_look.2.1 1 = .ok (.iconst 0, 1) := by decide +kernel
theorem dc_Mod_look_2 : decode M_Mod_look.2.1 2 = .ok (.putfield 260, 3) := by decide +kernel
theorem dc_Mod_look_5 : decode M_Mod_look.2.1 5 = .ok (.iconst 0, 1) := by decide +kernel
theorem dc_Mod_look_6 : decode M_Mod_look.2.1 6 = .ok (.istore_n 1, 1) := by decide +kernel
theorem dc_Mod_look_7 : decode M_Mod_look.2.1 7 = .ok (.iload_n 1, 1) := by decide +kernel
theorem dc_Mod_look_8 : decode M_Mod_look.2.1 8 = .ok (.bipush 8, 2) := by decide +kernel
theorem dc_Mod_look_10 : decode M_Mod_look.2.1 10 = .ok (.if_icmp .ge 16, 3) := by decide +kernel
theorem dc_Mod_look_13 : decode M_Mod_look.2.1 13 = .ok (.aload_n 0, 1) := by decide +kernel
theorem dc_Mod_look_14 : decode M_Mod_look.2.1 14 = .ok (.getfield 124, 3) := by decide +kernel
theorem dc_Mod_look_17 : decode M_Mod_look.2.1 17 = .ok (.iload_n 1, 1) := by decide +kernel
theorem dc_Mod_look_18 : decode M_Mod_look.2.1 18 = .ok (.iconst 0, 1) := by decide +kernel
theorem dc_Mod_look_19 : decode M_Mod_look.2.1 19 = .ok (.bastore, 1) := by decide +kernel
theorem dc_Mod_look_20 : decode M_Mod_look.2.1 20 = .ok (.iinc 1 1, 3) := by decide +kernel
theorem dc_Mod_look_23 : decode M_Mod_look.2.1 23 = .ok (.goto (-16), 3) := by decide +kernel
theorem dc_Mod_look_26 : decode M_Mod_look.2.1 26 = .ok (.aload_n 0, 1) := by decide +kernel
theorem dc_Mod_look_27 : decode M_Mod_look.2.1 27 = .ok (.getfield 214, 3) := by decide +kernel
theorem dc_Mod_look_30 : decode M_Mod_look.2.1 30 = .ok (.istore_n 1, 1) := by decide +kernel
theorem dc_Mod_look_31 : decode M_Mod_look.2.1 31 = .ok (.iload_n 1, 1) := by decide +kernel
theorem dc_Mod_look_32 : decode M_Mod_look.2.1 32 = .ok (.aload_n 0, 1) := by decide +kernel
theorem dc_Mod_look_33 : decode M_Mod_look.2.1 33 = .ok (.getfield 189, 3) := by decide +kernel
theorem dc_Mod_look_36 : decode M_Mod_look.2.1 36 = .ok (.if_icmp .ge 18, 3) := by decide +kernel
theorem dc_Mod_look_39 : decode M_Mod_look.2.1 39 = .ok (.aload_n 0, 1) := by decide +kernel
theorem dc_Mod_look_40 : decode M_Mod_look.2.1 40 = .ok (.aload_n 0, 1) := by decide +kernel
theorem dc_Mod_look_41 : decode M_Mod_look.2.1 41 = .ok (.iload_n 1, 1) := by decide +kernel
theorem dc_Mod_look_42 : decode M_Mod_look.2.1 42 = .ok (.invokevirtual 282, 3) := by decide +kernel
theorem dc_Mod_look_45 : decode M_Mod_look.2.1 45 = .ok (.invokevirtual 285, 3) := by decide +kernel
theorem dc_Mod_look_48 : decode M_Mod_look.2.1 48 = .ok (.iinc 1 1, 3) := by decide +kernel
theorem dc_Mod_look_51 : decode M_Mod_look.2.1 51 = .ok (.goto (-20), 3) := by decide +kernel
theorem dc_Mod_look_54 : decode M_Mod_look.2.1 54 = .ok (.return_, 1) := by decide +kernel
set_option maxRecDepth 20000 in
theorem e_Mod_look_0 {d : Nat} {σ : PH} {K : PO → PH → Prop} (x0 : Nat) (h : sh σ x0 = (1, 11) ∧ (∀ σ1 : PH, σ1 = pI σ 753 x0 0 → PW (d + 1) M_Mod_look 7 [.ref x0, .int 0] [] σ1 K)) : PW (d + 1) M_Mod_look 0 [.ref x0, uu] [] σ K := by
  refine pw_aload_n dc_Mod_look_0 rfl rfl ?_
  refine pw_iconst (v := 0) dc_Mod_look_1 (by decide) ?_
  obtain ⟨hs1, h⟩ := h
  have h := h _ rfl
  refine pw_putZ (c := 11) (k := 49) (f := 753) dc_Mod_look_2 fl_Mod_260 (Or.inl rfl) rfl rfl hs1 (Or.inl rfl) ?_
  refine pw_iconst (v := 0) dc_Mod_look_5 (by decide) ?_
  refine pw_istore_n dc_Mod_look_6 (by decide) ?_
  exact h
set_option maxRecDepth 20000 in
theorem e_Mod_look_7 {d : Nat} {σ : PH} {K : PO → PH → Prop} (x0 : Nat) (x1 : Int32) (h : (if 8 ≤ x1 then sh σ x0 = (1, 11) ∧ PW (d + 1) M_Mod_look 31 [.ref x0, .int (gI σ 750 x0)] [] σ K else sh σ x0 = (1, 11) ∧ (∃ b1 : Nat, gR σ 752 x0 = some b1 ∧ (∃ n1 : Nat, sh σ b1 = (4, n1) ∧ vp_in x1 n1 ∧ (∀ σ1 : PH, σ1 = uI σ b1 (ix x1) 0 → PW (d + 1) M_Mod_look 7 [.ref x0, .int (x1 + 1)] [] σ1 K))))) : PW (d + 1) M_Mod_look 7 [.ref x0, .int x1] [] σ K := by
  refine pw_iload_n dc_Mod_look_7 rfl ?_
  refine pw_bipush (v := 8) dc_Mod_look_8 (by decide) ?_
  refine pw_icmp_ge (tgt := 26) dc_Mod_look_10 (by decide) (fun hc => ?_) (fun hc => ?_)
  · have h := ite_t h hc
    refine pw_aload_n dc_Mod_look_26 rfl rfl ?_
    obtain ⟨hs1, h⟩ := h
    refine pw_getI (c := 11) (k := 46) (f := 750) dc_Mod_look_27 fl_Mod_214 rfl rfl hs1 ?_
    refine pw_istore_n dc_Mod_look_30 (by decide) ?_
    exact h
  · have h := ite_f h hc
    refine pw_aload_n dc_Mod_look_13 rfl rfl ?_
    obtain ⟨hs2, h⟩ := h
    refine pw_getR (c := 11) (k := 48) (f := 752) dc_Mod_look_14 fl_Mod_124 rfl rfl hs2 ?_
    obtain ⟨b1, hb1, h⟩ := h
    refine PW.top (v' := .ref b1) (congrArg va_rf hb1) ?_
    refine pw_iload_n dc_Mod_look_17 rfl ?_
    refine pw_iconst (v := 0) dc_Mod_look_18 (by decide) ?_
    obtain ⟨n1, hs3, h⟩ := h
    obtain ⟨hi1, h⟩ := h
    have h := h _ rfl
    refine pw_zast dc_Mod_look_19 hs3 hi1 (Or.inl rfl) ?_
    refine pw_iincv (v := 1) dc_Mod_look_20 (by decide) rfl (by decide) ?_
    refine pw_goto (tgt := 7) dc_Mod_look_23 (by decide) ?_
    exact h
set_option maxRecDepth 20000 in
theorem e_Mod_look_31 {d : Nat} {σ : PH} {K : PO → PH → Prop} (x0 : Nat) (x1 : Int32) (h : sh σ x0 = (1, 11) ∧ (if (gI σ 745 x0) ≤ x1 then K (.inl none) σ else PW d M_Mod_indicatorOf 0 [.ref x0, .int x1, uu, uu] [] σ (kI (fun r1 σ1 => sh σ1 x0 = (1, 11) ∧ PW d M_Mod_lookFrom 0 [.ref x0, .int r1, uu, uu, uu, uu] [] σ1 (kV (fun σ2 => PW (d + 1) M_Mod_look 31 [.ref x0, .int (x1 + 1)] [] σ2 K) K)) K))) : PW (d + 1) M_Mod_look 31 [.ref x0, .int x1] [] σ K := by
  refine pw_iload_n dc_Mod_look_31 rfl ?_
  refine pw_aload_n dc_Mod_look_32 rfl rfl ?_
  obtain ⟨hs1, h⟩ := h
  refine pw_getI (c := 11) (k := 41) (f := 745) dc_Mod_look_33 fl_Mod_189 rfl rfl hs1 ?_
  refine pw_icmp_ge (tgt := 54) dc_Mod_look_36 (by decide) (fun hc => ?_) (fun hc => ?_)
  · have h := ite_t h hc
    exact pw_vret dc_Mod_look_54 rfl h
  · have h := ite_f h hc
    refine pw_aload_n dc_Mod_look_39 rfl rfl ?_
    refine pw_aload_n dc_Mod_look_40 rfl rfl ?_
    refine pw_iload_n dc_Mod_look_41 rfl ?_
    refine pw_callV (vs := [.int x1]) (st := [.ref x0]) (b := x0) (cn := 11) dc_Mod_look_42 cq_Mod_indicatorOf (List.mem_of_getElem? (i := 1220) (by decide +kernel)) (List.mem_of_getElem? (i := 44) (by decide +kernel)) (List.mem_of_getElem? (i := 1218) (by decide +kernel)) rfl hs1 rfl rfl (by decide) (cat_cons rfl (cat_nil)) (Nat.le_of_ble_eq_true rfl) (PW.mono (kI_kN (fun r1 σ1 h => ?_)) h)
    obtain ⟨hs2, h⟩ := h
    refine pw_callV (vs := [.int r1]) (st := []) (b := x0) (cn := 11) dc_Mod_look_45 cq_Mod_lookFrom (List.mem_of_getElem? (i := 1224) (by decide +kernel)) (List.mem_of_getElem? (i := 45) (by decide +kernel)) (List.mem_of_getElem? (i := 1222) (by decide +kernel)) rfl hs2 rfl rfl (by decide) (cat_cons rfl (cat_nil)) (Nat.le_of_ble_eq_true rfl) (PW.mono (kV_kN (fun σ2 h => ?_)) h)
    refine pw_iincv (v := 1) dc_Mod_look_48 (by decide) rfl (by decide) ?_
    refine pw_goto (tgt := 31) dc_Mod_look_51 (by decide) ?_
    exact h
theorem dc_Mod_lookFrom_0 : decode M_Mod_lookFrom.2.1 0 = .ok (.iconst 0, 1) := by decide +kernel
theorem dc_Mod_lookFrom_1 : decode M_Mod_lookFrom.2.1 1 = .ok (.istore_n 2, 1) := by decide +kernel
theorem dc_Mod_lookFrom_2 : decode M_Mod_lookFrom.2.1 2 = .ok (.iload_n 2, 1) := by decide +kernel
theorem dc_Mod_lookFrom_3 : decode M_Mod_lookFrom.2.1 3 = .ok (.bipush 12, 2) := by decide +kernel
theorem dc_Mod_lookFrom_5 : decode M_Mod_lookFrom.2.1 5 = .ok (.if_icmp .ge 16, 3) := by decide +kernel
theorem dc_Mod_lookFrom_8 : decode M_Mod_lookFrom.2.1 8 = .ok (.aload_n 0, 1) := by decide +kernel
theorem dc_Mod_lookFrom_9 : decode M_Mod_lookFrom.2.1 9 = .ok (.getfield 133, 3) := by decide +kernel
theorem dc_Mod_lookFrom_12 : decode M_Mod_lookFrom.2.1 12 = .ok (.iload_n 2, 1) := by decide +kernel
theorem dc_Mod_lookFrom_13 : decode M_Mod_lookFrom.2.1 13 = .ok (.iconst 0, 1) := by decide +kernel
theorem dc_Mod_lookFrom_14 : decode M_Mod_lookFrom.2.1 14 = .ok (.bastore, 1) := by decide +kernel
theorem dc_Mod_lookFrom_15 : decode M_Mod_lookFrom.2.1 15 = .ok (.iinc 2 1, 3) := by decide +kernel
theorem dc_Mod_lookFrom_18 : decode M_Mod_lookFrom.2.1 18 = .ok (.goto (-16), 3) := by decide +kernel
theorem dc_Mod_lookFrom_21 : decode M_Mod_lookFrom.2.1 21 = .ok (.aload_n 0, 1) := by decide +kernel
theorem dc_Mod_lookFrom_22 : decode M_Mod_lookFrom.2.1 22 = .ok (.iload_n 1, 1) := by decide +kernel
theorem dc_Mod_lookFrom_23 : decode M_Mod_lookFrom.2.1 23 = .ok (.invokevirtual 270, 3) := by decide +kernel
theorem dc_Mod_lookFrom_26 : decode M_Mod_lookFrom.2.1 26 = .ok (.ifCond .ge 9, 3) := by decide +kernel
theorem dc_Mod_lookFrom_29 : decode M_Mod_lookFrom.2.1 29 = .ok (.aload_n 0, 1) := by decide +kernel
theorem dc_Mod_lookFrom_30 : decode M_Mod_lookFrom.2.1 30 = .ok (.iconst 1, 1) := by decide +kernel
theorem dc_Mod_lookFrom_31 : decode M_Mod_lookFrom.2.1 31 = .ok (.putfield 260, 3) := by decide +kernel
theorem dc_Mod_lookFrom_34 : decode M_Mod_lookFrom.2.1 34 = .ok (.return_, 1) := by decide +kernel
theorem dc_Mod_lookFrom_35 : decode M_Mod_lookFrom.2.1 35 = .ok (.aload_n 0, 1) := by decide +kernel
theorem dc_Mod_lookFrom_36 : decode M_Mod_lookFrom.2.1 36 = .ok (.getfield 133, 3) := by decide +kernel
theorem dc_Mod_lookFrom_39 : decode M_Mod_lookFrom.2.1 39 = .ok (.aload_n 0, 1) := by decide +kernel
theorem dc_Mod_lookFrom_40 : decode M_Mod_lookFrom.2.1 40 = .ok (.iload_n 1, 1) := by decide +kernel
theorem dc_Mod_lookFrom_41 : decode M_Mod_lookFrom.2.1 41 = .ok (.invokevirtual 270, 3) := by decide +kernel
theorem dc_Mod_lookFrom_44 : decode M_Mod_lookFrom.2.1 44 = .ok (.iconst 1, 1) := by decide +kernel
theorem dc_Mod_lookFrom_45 : decode M_Mod_lookFrom.2.1 45 = .ok (.bastore, 1) := by decide +kernel
theorem dc_Mod_lookFrom_46 : decode M_Mod_lookFrom.2.1 46 = .ok (.iconst 0, 1) := by decide +kernel
theorem dc_Mod_lookFrom_47 : decode M_Mod_lookFrom.2.1 47 = .ok (.istore_n 2, 1) := by decide +kernel
theorem dc_Mod_lookFrom_48 : decode M_Mod_lookFrom.2.1 48 = .ok (.iload_n 2, 1) := by decide +kernel
theorem dc_Mod_lookFrom_49 : decode M_Mod_lookFrom.2.1 49 = .ok (.bipush 12, 2) := by decide +kernel
theorem dc_Mod_lookFrom_51 : decode M_Mod_lookFrom.2.1 51 = .ok (.if_icmp .ge 105, 3) := by decide +kernel
theorem dc_Mod_lookFrom_54 : decode M_Mod_lookFrom.2.1 54 = .ok (.iconst 0, 1) := by decide +kernel
theorem dc_Mod_lookFrom_55 : decode M_Mod_lookFrom.2.1 55 = .ok (.istore_n 3, 1) := by decide +kernel
theorem dc_Mod_lookFrom_56 : decode M_Mod_lookFrom.2.1 56 = .ok (.iload_n 3, 1) := by decide +kernel
theorem dc_Mod_lookFrom_57 : decode M_Mod_lookFrom.2.1 57 = .ok (.aload_n 0, 1) := by decide +kernel
theorem dc_Mod_lookFrom_58 : decode M_Mod_lookFrom.2.1 58 = .ok (.getfield 263, 3) := by decide +kernel
theorem dc_Mod_lookFrom_61 : decode M_Mod_lookFrom.2.1 61 = .ok (.if_icmp .ge 89, 3) := by decide +kernel
theorem dc_Mod_lookFrom_64 : decode M_Mod_lookFrom.2.1 64 = .ok (.iconst 0, 1) := by decide +kernel
theorem dc_Mod_lookFrom_65 : decode M_Mod_lookFrom.2.1 65 = .ok (.istore 4, 2) := by decide +kernel
theorem dc_Mod_lookFrom_67 : decode M_Mod_lookFrom.2.1 67 = .ok (.aload_n 0, 1) := by decide +kernel
theorem dc_Mod_lookFrom_68 : decode M_Mod_lookFrom.2.1 68 = .ok (.getfield 133, 3) := by decide +kernel
theorem dc_Mod_lookFrom_71 : decode M_Mod_lookFrom.2.1 71 = .ok (.iload_n 3, 1) := by decide +kernel
theorem dc_Mod_lookFrom_72 : decode M_Mod_lookFrom.2.1 72 = .ok (.baload, 1) := by decide +kernel
theorem dc_Mod_lookFrom_73 : decode M_Mod_lookFrom.2.1 73 = .ok (.ifCond .eq 71, 3) := by decide +kernel
theorem dc_Mod_lookFrom_76 : decode M_Mod_lookFrom.2.1 76 = .ok (.iload 4, 2) := by decide +kernel
theorem dc_Mod_lookFrom_78 : decode M_Mod_lookFrom.2.1 78 = .ok (.aload_n 0, 1) := by decide +kernel
theorem dc_Mod_lookFrom_79 : decode M_Mod_lookFrom.2.1 79 = .ok (.getfield 46, 3) := by decide +kernel
theorem dc_Mod_lookFrom_82 : decode M_Mod_lookFrom.2.1 82 = .ok (.iload_n 3, 1) := by decide +kernel
theorem dc_Mod_lookFrom_83 : decode M_Mod_lookFrom.2.1 83 = .ok (.iaload, 1) := by decide +kernel
theorem dc_Mod_lookFrom_84 : decode M_Mod_lookFrom.2.1 84 = .ok (.if_icmp .ge 60, 3) := by decide +kernel
theorem dc_Mod_lookFrom_87 : decode M_Mod_lookFrom.2.1 87 = .ok (.aload_n 0, 1) := by decide +kernel
theorem dc_Mod_lookFrom_88 : decode M_Mod_lookFrom.2.1 88 = .ok (.aload_n 0, 1) := by decide +kernel
theorem dc_Mod_lookFrom_89 : decode M_Mod_lookFrom.2.1 89 = .ok (.getfield 49, 3) := by decide +kernel
theorem dc_Mod_lookFrom_92 : decode M_Mod_lookFrom.2.1 92 = .ok (.iconst 4, 1) := by decide +kernel
theorem dc_Mod_lookFrom_93 : decode M_Mod_lookFrom.2.1 93 = .ok (.iload_n 3, 1) := by decide +kernel
theorem dc_Mod_lookFrom_94 : decode M_Mod_lookFrom.2.1 94 = .ok (.imul, 1) := by decide +kernel
theorem dc_Mod_lookFrom_95 : decode M_Mod_lookFrom.2.1 95 = .ok (.iload 4, 2) := by decide +kernel
theorem dc_Mod_lookFrom_97 : decode M_Mod_lookFrom.2.1 97 = .ok (.iadd, 1) := by decide +kernel
theorem dc_Mod_lookFrom_98 : decode M_Mod_lookFrom.2.1 98 = .ok (.iaload, 1) := by decide +kernel
theorem dc_Mod_lookFrom_99 : decode M_Mod_lookFrom.2.1 99 = .ok (.invokevirtual 270, 3) := by decide +kernel
theorem dc_Mod_lookFrom_102 : decode M_Mod_lookFrom.2.1 102 = .ok (.istore 5, 2) := by decide +kernel
theorem dc_Mod_lookFrom_104 : decode M_Mod_lookFrom.2.1 104 = .ok (.aload_n 0, 1) := by decide +kernel
theorem dc_Mod_lookFrom_105 : decode M_Mod_lookFrom.2.1 105 = .ok (.aload_n 0, 1) := by decide +kernel
theorem dc_Mod_lookFrom_106 : decode M_Mod_lookFrom.2.1 106 = .ok (.getfield 260, 3) := by decide +kernel
theorem dc_Mod_lookFrom_109 : decode M_Mod_lookFrom.2.1 109 = .ok (.ifCond .ne 8, 3) := by decide +kernel
theorem dc_Mod_lookFrom_112 : decode M_Mod_lookFrom.2.1 112 = .ok (.iload 5, 2) := by decide +kernel
theorem dc_Mod_lookFrom_114 : decode M_Mod_lookFrom.2.1 114 = .ok (.ifCond .ge 7, 3) := by decide +kernel
theorem dc_Mod_lookFrom_117 : decode M_Mod_lookFrom.2.1 117 = .ok (.iconst 1, 1) := by decide +kernel
theorem dc_Mod_lookFrom_118 : decode M_Mod_lookFrom.2.1 118 = .ok (.goto 4, 3) := by decide +kernel
theorem dc_Mod_lookFrom_121 : decode M_Mod_lookFrom.2.1 121 = .ok (.iconst 0, 1) := by decide +kernel
theorem dc_Mod_lookFrom_122 : decode M_Mod_lookFrom.2.1 122 = .ok (.putfield 260, 3) := by decide +kernel
theorem dc_Mod_lookFrom_125 : decode M_Mod_lookFrom.2.1 125 = .ok (.iload 5, 2) := by decide +kernel
theorem dc_Mod_lookFrom_127 : decode M_Mod_lookFrom.2.1 127 = .ok (.ifCond .lt 11, 3) := by decide +kernel
theorem dc_Mod_lookFrom_130 : decode M_Mod_lookFrom.2.1 130 = .ok (.aload_n 0, 1) := by decide +kernel
theorem dc_Mod_lookFrom_131 : decode M_Mod_lookFrom.2.1 131 = .ok (.getfield 133, 3) := by decide +kernel
theorem dc_Mod_lookFrom_134 : decode M_Mod_lookFrom.2.1 134 = .ok (.iload 5, 2) := by decide +kernel
theorem dc_Mod_lookFrom_136 : decode M_Mod_lookFrom.2.1 136 = .ok (.iconst 1, 1) := by decide +kernel
theorem dc_Mod_lookFrom_137 : decode M_Mod_lookFrom.2.1 137 = .ok (.bastore, 1) := by decide +kernel
theorem dc_Mod_lookFrom_138 : decode M_Mod_lookFrom.2.1 138 = .ok (.iinc 4 1, 3) := by decide +kernel
theorem dc_Mod_lookFrom_141 : decode M_Mod_lookFrom.2.1 141 = .ok (.goto (-74), 3) := by decide +kernel
theorem dc_Mod_lookFrom_144 : decode M_Mod_lookFrom.2.1 144 = .ok (.iinc 3 1, 3) := by decide +kernel
theorem dc_Mod_lookFrom_147 : decode M_Mod_lookFrom.2.1 147 = .ok (.goto (-91), 3) := by decide +kernel
theorem dc_Mod_lookFrom_150 : decode M_Mod_lookFrom.2.1 150 = .ok (.iinc 2 1, 3) := by decide +kernel
theorem dc_Mod_lookFrom_153 : decode M_Mod_lookFrom.2.1 153 = .ok (.goto (-105), 3) := by decide +kernel
theorem dc_Mod_lookFrom_156 : decode M_Mod_lookFrom.2.1 156 = .ok (.iconst 0, 1) := by decide +kernel
theorem dc_Mod_lookFrom_157 : decode M_Mod_lookFrom.2.1 157 = .ok (.istore_n 2, 1) := by decide +kernel
theorem dc_Mod_lookFrom_158 : decode M_Mod_lookFrom.2.1 158 = .ok (.iload_n 2, 1) := by decide +kernel
theorem dc_Mod_lookFrom_159 : decode M_Mod_lookFrom.2.1 159 = .ok (.aload_n 0, 1) := by decide +kernel
theorem dc_Mod_lookFrom_160 : decode M_Mod_lookFrom.2.1 160 = .ok (.getfield 263, 3) := by decide +kernel
theorem dc_Mod_lookFrom_163 : decode M_Mod_lookFrom.2.1 163 = .ok (.if_icmp .ge 44, 3) := by decide +kernel
theorem dc_Mod_lookFrom_166 : decode M_Mod_lookFrom.2.1 166 = .ok (.aload_n 0, 1) := by decide +kernel
theorem dc_Mod_lookFrom_167 : decode M_Mod_lookFrom.2.1 167 = .ok (.getfield 133, 3) := by decide +kernel
theorem dc_Mod_lookFrom_170 : decode M_Mod_lookFrom.2.1 170 = .ok (.iload_n 2, 1) := by decide +kernel
theorem dc_Mod_lookFrom_171 : decode M_Mod_lookFrom.2.1 171 = .ok (.baload, 1) := by decide +kernel
theorem dc_Mod_lookFrom_172 : decode M_Mod_lookFrom.2.1 172 = .ok (.ifCond .eq 29, 3) := by decide +kernel
theorem dc_Mod_lookFrom_175 : decode M_Mod_lookFrom.2.1 175 = .ok (.aload_n 0, 1) := by decide +kernel
theorem dc_Mod_lookFrom_176 : decode M_Mod_lookFrom.2.1 176 = .ok (.getfield 37, 3) := by decide +kernel
theorem dc_Mod_lookFrom_179 : decode M_Mod_lookFrom.2.1 179 = .ok (.iload_n 2, 1) := by decide +kernel
theorem dc_Mod_lookFrom_180 : decode M_Mod_lookFrom.2.1 180 = .ok (.iaload, 1) := by decide +kernel
theorem dc_Mod_lookFrom_181 : decode M_Mod_lookFrom.2.1 181 = .ok (.iconst 1, 1) := by decide +kernel
theorem dc_Mod_lookFrom_182 : decode M_Mod_lookFrom.2.1 182 = .ok (.if_icmp .ne 19, 3) := by decide +kernel
theorem dc_Mod_lookFrom_185 : decode M_Mod_lookFrom.2.1 185 = .ok (.aload_n 0, 1) := by decide +kernel
theorem dc_Mod_lookFrom_186 : decode M_Mod_lookFrom.2.1 186 = .ok (.aload_n 0, 1) := by decide +kernel
theorem dc_Mod_lookFrom_187 : decode M_Mod_lookFrom.2.1 187 = .ok (.getfield 40, 3) := by decide +kernel
theorem dc_Mod_lookFrom_190 : decode M_Mod_lookFrom.2.1 190 = .ok (.iload_n 2, 1) := by decide +kernel
theorem dc_Mod_lookFrom_191 : decode M_Mod_lookFrom.2.1 191 = .ok (.iaload, 1) := by decide +kernel
theorem dc_Mod_lookFrom_192 : decode M_Mod_lookFrom.2.1 192 = .ok (.aload_n 0, 1) := by decide +kernel
theorem dc_Mod_lookFrom_193 : decode M_Mod_lookFrom.2.1 193 = .ok (.getfield 43, 3) := by decide +kernel
theorem dc_Mod_lookFrom_196 : decode M_Mod_lookFrom.2.1 196 = .ok (.iload_n 2, 1) := by decide +kernel
theorem dc_Mod_lookFrom_197 : decode M_Mod_lookFrom.2.1 197 = .ok (.iaload, 1) := by decide +kernel
theorem dc_Mod_lookFrom_198 : decode M_Mod_lookFrom.2.1 198 = .ok (.invokevirtual 288, 3) := by decide +kernel
theorem dc_Mod_lookFrom_201 : decode M_Mod_lookFrom.2.1 201 = .ok (.iinc 2 1, 3) := by decide +kernel
theorem dc_Mod_lookFrom_204 : decode M_Mod_lookFrom.2.1 204 = .ok (.goto (-46), 3) := by decide +kernel
theorem dc_Mod_lookFrom_207 : decode M_Mod_lookFrom.2.1 207 = .ok (.return_, 1) := by decide +kernel
set_option maxRecDepth 20000 in
theorem e_Mod_lookFrom_0 {d : Nat} {σ : PH} {K : PO → PH → Prop} (x0 : Nat) (x1 : Int32) (h : PW (d + 1) M_Mod_lookFrom 2 [.ref x0, .int x1, .int 0, uu, uu, uu] [] σ K) : PW (d + 1) M_Mod_lookFrom 0 [.ref x0, .int x1, uu, uu, uu, uu] [] σ K := by
  refine pw_iconst (v := 0) dc_Mod_lookFrom_0 (by decide) ?_
  refine pw_istore_n dc_Mod_lookFrom_1 (by decide) ?_
  exact h
set_option maxRecDepth 20000 in
theorem e_Mod_lookFrom_2 {d : Nat} {σ : PH} {K : PO → PH → Prop} (x0 : Nat) (x1 : Int32) (x2 : Int32) (h : (if 12 ≤ x2 then sh σ x0 = (1, 11) ∧ PW d M_Mod_routeAt 0 [.ref x0, .int x1, uu, uu] [] σ (kI (fun r1 σ1 => (if 0 ≤ r1 then sh σ1 x0 = (1, 11) ∧ (∃ b1 : Nat, gR σ1 758 x0 = some b1 ∧ PW d M_Mod_routeAt 0 [.ref x0, .int x1, uu, uu] [] σ1 (kI (fun r2 σ2 => (∃ n1 : Nat, sh σ2 b1 = (4, n1) ∧ vp_in r2 n1 ∧ (∀ σ3 : PH, σ3 = uI σ2 b1 (ix r2) 1 → PW (d + 1) M_Mod_lookFrom 48 [.ref x0, uu, .int 0, uu, uu, uu] [] σ3 K))) K)) else sh σ1 x0 = (1, 11) ∧ (∀ σ4 : PH, σ4 = pI σ1 753 x0 1 → K (.inl none) σ4))) K) else sh σ x0 = (1, 11) ∧ (∃ b2 : Nat, gR σ 758 x0 = some b2 ∧ (∃ n2 : Nat, sh σ b2 = (4, n2) ∧ vp_in x2 n2 ∧ (∀ σ5 : PH, σ5 = uI σ b2 (ix x2) 0 → PW (d + 1) M_Mod_lookFrom 2 [.ref x0, .int x1, .int (x2 + 1), uu, uu, uu] [] σ5 K))))) : PW (d + 1) M_Mod_lookFrom 2 [.ref x0, .int x1, .int x2, uu, uu, uu] [] σ K := by
  refine pw_iload_n dc_Mod_lookFrom_2 rfl ?_
  refine pw_bipush (v := 12) dc_Mod_lookFrom_3 (by decide) ?_
  refine pw_icmp_ge (tgt := 21) dc_Mod_lookFrom_5 (by decide) (fun hc => ?_) (fun hc => ?_)
  · have h := ite_t h hc
    refine pw_aload_n dc_Mod_lookFrom_21 rfl rfl ?_
    refine pw_iload_n dc_Mod_lookFrom_22 rfl ?_
    obtain ⟨hs1, h⟩ := h
    refine pw_callV (vs := [.int x1]) (st := []) (b := x0) (cn := 11) dc_Mod_lookFrom_23 cq_Mod_routeAt (List.mem_of_getElem? (i := 1228) (by decide +kernel)) (List.mem_of_getElem? (i := 46) (by decide +kernel)) (List.mem_of_getElem? (i := 1226) (by decide +kernel)) rfl hs1 rfl rfl (by decide) (cat_cons rfl (cat_nil)) (Nat.le_of_ble_eq_true rfl) (PW.mono (kI_kN (fun r1 σ1 h => ?_)) h)
    refine pw_if_ge (tgt := 35) dc_Mod_lookFrom_26 (by decide) (fun hc => ?_) (fun hc => ?_)
    · have h := ite_t h hc
      refine pw_aload_n dc_Mod_lookFrom_35 rfl rfl ?_
      obtain ⟨hs2, h⟩ := h
      refine pw_getR (c := 11) (k := 54) (f := 758) dc_Mod_lookFrom_36 fl_Mod_133 rfl rfl hs2 ?_
      obtain ⟨b1, hb1, h⟩ := h
      refine PW.top (v' := .ref b1) (congrArg va_rf hb1) ?_
      refine pw_aload_n dc_Mod_lookFrom_39 rfl rfl ?_
      refine pw_iload_n dc_Mod_lookFrom_40 rfl ?_
      refine pw_callV (vs := [.int x1]) (st := [.ref b1]) (b := x0) (cn := 11) dc_Mod_lookFrom_41 cq_Mod_routeAt (List.mem_of_getElem? (i := 1228) (by decide +kernel)) (List.mem_of_getElem? (i := 46) (by decide +kernel)) (List.mem_of_getElem? (i := 1226) (by decide +kernel)) rfl hs2 rfl rfl (by decide) (cat_cons rfl (cat_nil)) (Nat.le_of_ble_eq_true rfl) (PW.mono (kI_kN (fun r2 σ2 h => ?_)) h)
      refine pw_iconst (v := 1) dc_Mod_lookFrom_44 (by decide) ?_
      obtain ⟨n1, hs3, h⟩ := h
      obtain ⟨hi1, h⟩ := h
      have h := h _ rfl
      refine pw_zast dc_Mod_lookFrom_45 hs3 hi1 (Or.inr rfl) ?_
      refine pw_iconst (v := 0) dc_Mod_lookFrom_46 (by decide) ?_
      refine pw_istore_n dc_Mod_lookFrom_47 (by decide) ?_
      refine PW.drop (ls' := [.ref x0, uu, .int 0, uu, uu, uu]) ⟨Or.inl rfl, Or.inr rfl, Or.inl rfl, Or.inl rfl, Or.inl rfl, Or.inl rfl, trivial⟩ ?_
      exact h
    · have h := ite_f h hc
      refine pw_aload_n dc_Mod_lookFrom_29 rfl rfl ?_
      refine pw_iconst (v := 1) dc_Mod_lookFrom_30 (by decide) ?_
      obtain ⟨hs4, h⟩ := h
      have h := h _ rfl
      refine pw_putZ (c := 11) (k := 49) (f := 753) dc_Mod_lookFrom_31 fl_Mod_260 (Or.inl rfl) rfl rfl hs4 (Or.inr rfl) ?_
      exact pw_vret dc_Mod_lookFrom_34 rfl h
  · have h := ite_f h hc
    refine pw_aload_n dc_Mod_lookFrom_8 rfl rfl ?_
    obtain ⟨hs5, h⟩ := h
    refine pw_getR (c := 11) (k := 54) (f := 758) dc_Mod_lookFrom_9 fl_Mod_133 rfl rfl hs5 ?_
    obtain ⟨b2, hb2, h⟩ := h
    refine PW.top (v' := .ref b2) (congrArg va_rf hb2) ?_
    refine pw_iload_n dc_Mod_lookFrom_12 rfl ?_
    refine pw_iconst (v := 0) dc_Mod_lookFrom_13 (by decide) ?_
    obtain ⟨n2, hs6, h⟩ := h
    obtain ⟨hi2, h⟩ := h
    have h := h _ rfl
    refine pw_zast dc_Mod_lookFrom_14 hs6 hi2 (Or.inl rfl) ?_
    refine pw_iincv (v := 1) dc_Mod_lookFrom_15 (by decide) rfl (by decide) ?_
    refine pw_goto (tgt := 2) dc_Mod_lookFrom_18 (by decide) ?_
    exact h
set_option maxRecDepth 20000 in
theorem e_Mod_lookFrom_48 {d : Nat} {σ : PH} {K : PO → PH → Prop} (x0 : Nat) (x2 : Int32) (h : (if 12 ≤ x2 then PW (d + 1) M_Mod_lookFrom 158 [.ref x0, uu, .int 0, uu, uu, uu] [] σ K else PW (d + 1) M_Mod_lookFrom 56 [.ref x0, uu, .int x2, .int 0, uu, uu] [] σ K)) : PW (d + 1) M_Mod_lookFrom 48 [.ref x0, uu, .int x2, uu, uu, uu] [] σ K := by
  refine pw_iload_n dc_Mod_lookFrom_48 rfl ?_
  refine pw_bipush (v := 12) dc_Mod_lookFrom_49 (by decide) ?_
  refine pw_icmp_ge (tgt := 156) dc_Mod_lookFrom_51 (by decide) (fun hc => ?_) (fun hc => ?_)
  · have h := ite_t h hc
    refine pw_iconst (v := 0) dc_Mod_lookFrom_156 (by decide) ?_
    refine pw_istore_n dc_Mod_lookFrom_157 (by decide) ?_
    exact h
  · have h := ite_f h hc
    refine pw_iconst (v := 0) dc_Mod_lookFrom_54 (by decide) ?_
    refine pw_istore_n dc_Mod_lookFrom_55 (by decide) ?_
    exact h
set_option maxRecDepth 20000 in
theorem e_Mod_lookFrom_56 {d : Nat} {σ : PH} {K : PO → PH → Prop} (x0 : Nat) (x2 : Int32) (x3 : Int32) (h : sh σ x0 = (1, 11) ∧ (if (gI σ 712 x0) ≤ x3 then PW (d + 1) M_Mod_lookFrom 48 [.ref x0, uu, .int (x2 + 1), uu, uu, uu] [] σ K else PW (d + 1) M_Mod_lookFrom 67 [.ref x0, uu, .int x2, .int x3, .int 0, uu] [] σ K)) : PW (d + 1) M_Mod_lookFrom 56 [.ref x0, uu, .int x2, .int x3, uu, uu] [] σ K := by
  refine pw_iload_n dc_Mod_lookFrom_56 rfl ?_
  refine pw_aload_n dc_Mod_lookFrom_57 rfl rfl ?_
  obtain ⟨hs1, h⟩ := h
  refine pw_getI (c := 11) (k := 8) (f := 712) dc_Mod_lookFrom_58 fl_Mod_263 rfl rfl hs1 ?_
  refine pw_icmp_ge (tgt := 150) dc_Mod_lookFrom_61 (by decide) (fun hc => ?_) (fun hc => ?_)
  · have h := ite_t h hc
    refine pw_iincv (v := 1) dc_Mod_lookFrom_150 (by decide) rfl (by decide) ?_
    refine pw_goto (tgt := 48) dc_Mod_lookFrom_153 (by decide) ?_
    refine PW.drop (ls' := [.ref x0, uu, .int (x2 + 1), uu, uu, uu]) ⟨Or.inl rfl, Or.inl rfl, Or.inl rfl, Or.inr rfl, Or.inl rfl, Or.inl rfl, trivial⟩ ?_
    exact h
  · have h := ite_f h hc
    refine pw_iconst (v := 0) dc_Mod_lookFrom_64 (by decide) ?_
    refine pw_istore dc_Mod_lookFrom_65 (by decide) ?_
    exact h
set_option maxRecDepth 20000 in
theorem e_Mod_lookFrom_67 {d : Nat} {σ : PH} {K : PO → PH → Prop} (x0 : Nat) (x2 : Int32) (x3 : Int32) (x4 : Int32) (h : sh σ x0 = (1, 11) ∧ (∃ b1 : Nat, gR σ 758 x0 = some b1 ∧ (∃ n1 : Nat, sh σ b1 = (4, n1) ∧ vp_in x3 n1 ∧ (if (eI σ b1 (ix x3)) = 0 then PW (d + 1) M_Mod_lookFrom 144 [.ref x0, uu, .int x2, .int x3, uu, uu] [] σ K else (∃ b2 : Nat, gR σ 717 x0 = some b2 ∧ (∃ n2 : Nat, sh σ b2 = (2, n2) ∧ vp_in x3 n2 ∧ (if (eI σ b2 (ix x3)) ≤ x4 then PW (d + 1) M_Mod_lookFrom 144 [.ref x0, uu, .int x2, .int x3, uu, uu] [] σ K else (∃ b3 : Nat, gR σ 718 x0 = some b3 ∧ (∃ n3 : Nat, sh σ b3 = (2, n3) ∧ vp_in ((4 * x3) + x4) n3 ∧ PW d M_Mod_routeAt 0 [.ref x0, .int (eI σ b3 (ix ((4 * x3) + x4))), uu, uu] [] σ (kI (fun r1 σ1 => sh σ1 x0 = (1, 11) ∧ (if (gI σ1 753 x0) = 0 then (if 0 ≤ r1 then PW (d + 1) M_Mod_lookFrom 122 [.ref x0, uu, .int x2, .int x3, .int x4, .int r1] [.int 0, .ref x0] σ1 K else PW (d + 1) M_Mod_lookFrom 117 [.ref x0, uu, .int x2, .int x3, .int x4, .int r1] [.ref x0] σ1 K) else PW (d + 1) M_Mod_lookFrom 117 [.ref x0, uu, .int x2, .int x3, .int x4, .int r1] [.ref x0] σ1 K)) K)))))))))) : PW (d + 1) M_Mod_lookFrom 67 [.ref x0, uu, .int x2, .int x3, .int x4, uu] [] σ K := by
  refine pw_aload_n dc_Mod_lookFrom_67 rfl rfl ?_
  obtain ⟨hs1, h⟩ := h
  refine pw_getR (c := 11) (k := 54) (f := 758) dc_Mod_lookFrom_68 fl_Mod_133 rfl rfl hs1 ?_
  obtain ⟨b1, hb1, h⟩ := h
  refine PW.top (v' := .ref b1) (congrArg va_rf hb1) ?_
  refine pw_iload_n dc_Mod_lookFrom_71 rfl ?_
  obtain ⟨n1, hs2, h⟩ := h
  obtain ⟨hi1, h⟩ := h
  refine pw_zald dc_Mod_lookFrom_72 hs2 hi1 ?_
  refine pw_if_eq (tgt := 144) dc_Mod_lookFrom_73 (by decide) (fun hc => ?_) (fun hc => ?_)
  · have h := ite_t h hc
    refine PW.drop (ls' := [.ref x0, uu, .int x2, .int x3, uu, uu]) ⟨Or.inl rfl, Or.inl rfl, Or.inl rfl, Or.inl rfl, Or.inr rfl, Or.inl rfl, trivial⟩ ?_
    exact h
  · have h := ite_f h hc
    refine pw_iload dc_Mod_lookFrom_76 rfl ?_
    refine pw_aload_n dc_Mod_lookFrom_78 rfl rfl ?_
    refine pw_getR (c := 11) (k := 13) (f := 717) dc_Mod_lookFrom_79 fl_Mod_46 rfl rfl hs1 ?_
    obtain ⟨b2, hb2, h⟩ := h
    refine PW.top (v' := .ref b2) (congrArg va_rf hb2) ?_
    refine pw_iload_n dc_Mod_lookFrom_82 rfl ?_
    obtain ⟨n2, hs3, h⟩ := h
    obtain ⟨hi2, h⟩ := h
    refine pw_iald dc_Mod_lookFrom_83 hs3 hi2 ?_
    refine pw_icmp_ge (tgt := 144) dc_Mod_lookFrom_84 (by decide) (fun hc => ?_) (fun hc => ?_)
    · have h := ite_t h hc
      refine PW.drop (ls' := [.ref x0, uu, .int x2, .int x3, uu, uu]) ⟨Or.inl rfl, Or.inl rfl, Or.inl rfl, Or.inl rfl, Or.inr rfl, Or.inl rfl, trivial⟩ ?_
      exact h
    · have h := ite_f h hc
      refine pw_aload_n dc_Mod_lookFrom_87 rfl rfl ?_
      refine pw_aload_n dc_Mod_lookFrom_88 rfl rfl ?_
      refine pw_getR (c := 11) (k := 14) (f := 718) dc_Mod_lookFrom_89 fl_Mod_49 rfl rfl hs1 ?_
      obtain ⟨b3, hb3, h⟩ := h
      refine PW.top (v' := .ref b3) (congrArg va_rf hb3) ?_
      refine pw_iconst (v := 4) dc_Mod_lookFrom_92 (by decide) ?_
      refine pw_iload_n dc_Mod_lookFrom_93 rfl ?_
      refine pw_imul dc_Mod_lookFrom_94 ?_
      refine pw_iload dc_Mod_lookFrom_95 rfl ?_
      refine pw_iadd dc_Mod_lookFrom_97 ?_
      obtain ⟨n3, hs4, h⟩ := h
      obtain ⟨hi3, h⟩ := h
      refine pw_iald dc_Mod_lookFrom_98 hs4 hi3 ?_
      refine pw_callV (vs := [.int (eI σ b3 (ix ((4 * x3) + x4)))]) (st := []) (b := x0) (cn := 11) dc_Mod_lookFrom_99 cq_Mod_routeAt (List.mem_of_getElem? (i := 1228) (by decide +kernel)) (List.mem_of_getElem? (i := 46) (by decide +kernel)) (List.mem_of_getElem? (i := 1226) (by decide +kernel)) rfl hs1 rfl rfl (by decide) (cat_cons rfl (cat_nil)) (Nat.le_of_ble_eq_true rfl) (PW.mono (kI_kN (fun r1 σ1 h => ?_)) h)
      refine pw_istore dc_Mod_lookFrom_102 (by decide) ?_
      refine pw_aload_n dc_Mod_lookFrom_104 rfl rfl ?_
      refine pw_aload_n dc_Mod_lookFrom_105 rfl rfl ?_
      obtain ⟨hs5, h⟩ := h
      refine pw_getI (c := 11) (k := 49) (f := 753) dc_Mod_lookFrom_106 fl_Mod_260 rfl rfl hs5 ?_
      refine pw_if_ne (tgt := 117) dc_Mod_lookFrom_109 (by decide) (fun hc => ?_) (fun hc => ?_)
      · have h := ite_f h hc
        exact h
      · have h := ite_t h hc
        refine pw_iload dc_Mod_lookFrom_112 rfl ?_
        refine pw_if_ge (tgt := 121) dc_Mod_lookFrom_114 (by decide) (fun hc => ?_) (fun hc => ?_)
        · have h := ite_t h hc
          refine pw_iconst (v := 0) dc_Mod_lookFrom_121 (by decide) ?_
          exact h
        · have h := ite_f h hc
          exact h
set_option maxRecDepth 20000 in
theorem e_Mod_lookFrom_117 {d : Nat} {σ : PH} {K : PO → PH → Prop} (x0 : Nat) (x2 : Int32) (x3 : Int32) (x4 : Int32) (x5 : Int32) (y0 : Nat) (h : PW (d + 1) M_Mod_lookFrom 122 [.ref x0, uu, .int x2, .int x3, .int x4, .int x5] [.int 1, .ref y0] σ K) : PW (d + 1) M_Mod_lookFrom 117 [.ref x0, uu, .int x2, .int x3, .int x4, .int x5] [.ref y0] σ K := by
  refine pw_iconst (v := 1) dc_Mod_lookFrom_117 (by decide) ?_
  refine pw_goto (tgt := 122) dc_Mod_lookFrom_118 (by decide) ?_
  exact h
set_option maxRecDepth 20000 in
theorem e_Mod_lookFrom_122 {d : Nat} {σ : PH} {K : PO → PH → Prop} (x0 : Nat) (x2 : Int32) (x3 : Int32) (x4 : Int32) (x5 : Int32) (y0 : Int32) (y1 : Nat) (h : sh σ y1 = (1, 11) ∧ bo y0 ∧ (∀ σ1 : PH, σ1 = pI σ 753 y1 y0 → (if x5 < 0 then PW (d + 1) M_Mod_lookFrom 138 [.ref x0, uu, .int x2, .int x3, .int x4, uu] [] σ1 K else sh σ1 x0 = (1, 11) ∧ (∃ b1 : Nat, gR σ1 758 x0 = some b1 ∧ (∃ n1 : Nat, sh σ1 b1 = (4, n1) ∧ vp_in x5 n1 ∧ (∀ σ2 : PH, σ2 = uI σ1 b1 (ix x5) 1 → PW (d + 1) M_Mod_lookFrom 138 [.ref x0, uu, .int x2, .int x3, .int x4, uu] [] σ2 K)))))) : PW (d + 1) M_Mod_lookFrom 122 [.ref x0, uu, .int x2, .int x3, .int x4, .int x5] [.int y0, .ref y1] σ K := by
  obtain ⟨hs1, h⟩ := h
  obtain ⟨hz1, h⟩ := h
  have h := h _ rfl
  refine pw_putZ (c := 11) (k := 49) (f := 753) dc_Mod_lookFrom_122 fl_Mod_260 (Or.inl rfl) rfl rfl hs1 hz1 ?_
  refine pw_iload dc_Mod_lookFrom_125 rfl ?_
  refine pw_if_lt (tgt := 138) dc_Mod_lookFrom_127 (by decide) (fun hc => ?_) (fun hc => ?_)
  · have h := ite_t h hc
    refine PW.drop (ls' := [.ref x0, uu, .int x2, .int x3, .int x4, uu]) ⟨Or.inl rfl, Or.inl rfl, Or.inl rfl, Or.inl rfl, Or.inl rfl, Or.inr rfl, trivial⟩ ?_
    exact h
  · have h := ite_f h hc
    refine pw_aload_n dc_Mod_lookFrom_130 rfl rfl ?_
    obtain ⟨hs2, h⟩ := h
    refine pw_getR (c := 11) (k := 54) (f := 758) dc_Mod_lookFrom_131 fl_Mod_133 rfl rfl hs2 ?_
    obtain ⟨b1, hb1, h⟩ := h
    refine PW.top (v' := .ref b1) (congrArg va_rf hb1) ?_
    refine pw_iload dc_Mod_lookFrom_134 rfl ?_
    refine pw_iconst (v := 1) dc_Mod_lookFrom_136 (by decide) ?_
    obtain ⟨n1, hs3, h⟩ := h
    obtain ⟨hi1, h⟩ := h
    have h := h _ rfl
    refine pw_zast dc_Mod_lookFrom_137 hs3 hi1 (Or.inr rfl) ?_
    refine PW.drop (ls' := [.ref x0, uu, .int x2, .int x3, .int x4, uu]) ⟨Or.inl rfl, Or.inl rfl, Or.inl rfl, Or.inl rfl, Or.inl rfl, Or.inr rfl, trivial⟩ ?_
    exact h
set_option maxRecDepth 20000 in
theorem e_Mod_lookFrom_138 {d : Nat} {σ : PH} {K : PO → PH → Prop} (x0 : Nat) (x2 : Int32) (x3 : Int32) (x4 : Int32) (h : PW (d + 1) M_Mod_lookFrom 67 [.ref x0, uu, .int x2, .int x3, .int (x4 + 1), uu] [] σ K) : PW (d + 1) M_Mod_lookFrom 138 [.ref x0, uu, .int x2, .int x3, .int x4, uu] [] σ K := by
  refine pw_iincv (v := 1) dc_Mod_lookFrom_138 (by decide) rfl (by decide) ?_
  refine pw_goto (tgt := 67) dc_Mod_lookFrom_141 (by decide) ?_
  exact h
set_option maxRecDepth 20000 in
theorem e_Mod_lookFrom_144 {d : Nat} {σ : PH} {K : PO → PH → Prop} (x0 : Nat) (x2 : Int32) (x3 : Int32) (h : PW (d + 1) M_Mod_lookFrom 56 [.ref x0, uu, .int x2, .int (x3 + 1), uu, uu] [] σ K) : PW (d + 1) M_Mod_lookFrom 144 [.ref x0, uu, .int x2, .int x3, uu, uu] [] σ K := by
  refine pw_iincv (v := 1) dc_Mod_lookFrom_144 (by decide) rfl (by decide) ?_
  refine pw_goto (tgt := 56) dc_Mod_lookFrom_147 (by decide) ?_
  exact h
set_option maxRecDepth 20000 in
theorem e_Mod_lookFrom_158 {d : Nat} {σ : PH} {K : PO → PH → Prop} (x0 : Nat) (x2 : Int32) (h : sh σ x0 = (1, 11) ∧ (if (gI σ 712 x0) ≤ x2 then K (.inl none) σ else (∃ b1 : Nat, gR σ 758 x0 = some b1 ∧ (∃ n1 : Nat, sh σ b1 = (4, n1) ∧ vp_in x2 n1 ∧ (if (eI σ b1 (ix x2)) = 0 then PW (d + 1) M_Mod_lookFrom 201 [.ref x0, uu, .int x2, uu, uu, uu] [] σ K else (∃ b2 : Nat, gR σ 714 x0 = some b2 ∧ (∃ n2 : Nat, sh σ b2 = (2, n2) ∧ vp_in x2 n2 ∧ (if (eI σ b2 (ix x2)) = 1 then (∃ b3 : Nat, gR σ 715 x0 = some b3 ∧ (∃ n3 : Nat, sh σ b3 = (2, n3) ∧ vp_in x2 n3 ∧ (∃ b4 : Nat, gR σ 716 x0 = some b4 ∧ (∃ n4 : Nat, sh σ b4 = (2, n4) ∧ vp_in x2 n4 ∧ PW d M_Mod_reach 0 [.ref x0, .int (eI σ b3 (ix x2)), .int (eI σ b4 (ix x2)), uu] [] σ (kV (fun σ1 => PW (d + 1) M_Mod_lookFrom 201 [.ref x0, uu, .int x2, uu, uu, uu] [] σ1 K) K))))) else PW (d + 1) M_Mod_lookFrom 201 [.ref x0, uu, .int x2, uu, uu, uu] [] σ K)))))))) : PW (d + 1) M_Mod_lookFrom 158 [.ref x0, uu, .int x2, uu, uu, uu] [] σ K := by
  refine pw_iload_n dc_Mod_lookFrom_158 rfl ?_
  refine pw_aload_n dc_Mod_lookFrom_159 rfl rfl ?_
  obtain ⟨hs1, h⟩ := h
  refine pw_getI (c := 11) (k := 8) (f := 712) dc_Mod_lookFrom_160 fl_Mod_263 rfl rfl hs1 ?_
  refine pw_icmp_ge (tgt := 207) dc_Mod_lookFrom_163 (by decide) (fun hc => ?_) (fun hc => ?_)
  · have h := ite_t h hc
    exact pw_vret dc_Mod_lookFrom_207 rfl h
  · have h := ite_f h hc
    refine pw_aload_n dc_Mod_lookFrom_166 rfl rfl ?_
    refine pw_getR (c := 11) (k := 54) (f := 758) dc_Mod_lookFrom_167 fl_Mod_133 rfl rfl hs1 ?_
    obtain ⟨b1, hb1, h⟩ := h
    refine PW.top (v' := .ref b1) (congrArg va_rf hb1) ?_
    refine pw_iload_n dc_Mod_lookFrom_170 rfl ?_
    obtain ⟨n1, hs2, h⟩ := h
    obtain ⟨hi1, h⟩ := h
    refine pw_zald dc_Mod_lookFrom_171 hs2 hi1 ?_
    refine pw_if_eq (tgt := 201) dc_Mod_lookFrom_172 (by decide) (fun hc => ?_) (fun hc => ?_)
    · have h := ite_t h hc
      exact h
    · have h := ite_f h hc
      refine pw_aload_n dc_Mod_lookFrom_175 rfl rfl ?_
      refine pw_getR (c := 11) (k := 10) (f := 714) dc_Mod_lookFrom_176 fl_Mod_37 rfl rfl hs1 ?_
      obtain ⟨b2, hb2, h⟩ := h
      refine PW.top (v' := .ref b2) (congrArg va_rf hb2) ?_
      refine pw_iload_n dc_Mod_lookFrom_179 rfl ?_
      obtain ⟨n2, hs3, h⟩ := h
      obtain ⟨hi2, h⟩ := h
      refine pw_iald dc_Mod_lookFrom_180 hs3 hi2 ?_
      refine pw_iconst (v := 1) dc_Mod_lookFrom_181 (by decide) ?_
      refine pw_icmp_ne (tgt := 201) dc_Mod_lookFrom_182 (by decide) (fun hc => ?_) (fun hc => ?_)
      · have h := ite_f h hc
        exact h
      · have h := ite_t h hc
        refine pw_aload_n dc_Mod_lookFrom_185 rfl rfl ?_
        refine pw_aload_n dc_Mod_lookFrom_186 rfl rfl ?_
        refine pw_getR (c := 11) (k := 11) (f := 715) dc_Mod_lookFrom_187 fl_Mod_40 rfl rfl hs1 ?_
        obtain ⟨b3, hb3, h⟩ := h
        refine PW.top (v' := .ref b3) (congrArg va_rf hb3) ?_
        refine pw_iload_n dc_Mod_lookFrom_190 rfl ?_
        obtain ⟨n3, hs4, h⟩ := h
        obtain ⟨hi3, h⟩ := h
        refine pw_iald dc_Mod_lookFrom_191 hs4 hi3 ?_
        refine pw_aload_n dc_Mod_lookFrom_192 rfl rfl ?_
        refine pw_getR (c := 11) (k := 12) (f := 716) dc_Mod_lookFrom_193 fl_Mod_43 rfl rfl hs1 ?_
        obtain ⟨b4, hb4, h⟩ := h
        refine PW.top (v' := .ref b4) (congrArg va_rf hb4) ?_
        refine pw_iload_n dc_Mod_lookFrom_196 rfl ?_
        obtain ⟨n4, hs5, h⟩ := h
        obtain ⟨hi4, h⟩ := h
        refine pw_iald dc_Mod_lookFrom_197 hs5 hi4 ?_
        refine pw_callV (vs := [.int (eI σ b3 (ix x2)), .int (eI σ b4 (ix x2))]) (st := []) (b := x0) (cn := 11) dc_Mod_lookFrom_198 cq_Mod_reach (List.mem_of_getElem? (i := 1232) (by decide +kernel)) (List.mem_of_getElem? (i := 47) (by decide +kernel)) (List.mem_of_getElem? (i := 1230) (by decide +kernel)) rfl hs1 rfl rfl (by decide) (cat_cons rfl (cat_cons rfl (cat_nil))) (Nat.le_of_ble_eq_true rfl) (PW.mono (kV_kN (fun σ1 h => ?_)) h)
        exact h
set_option maxRecDepth 20000 in
theorem e_Mod_lookFrom_201 {d : Nat} {σ : PH} {K : PO → PH → Prop} (x0 : Nat) (x2 : Int32) (h : PW (d + 1) M_Mod_lookFrom 158 [.ref x0, uu, .int (x2 + 1), uu, uu, uu] [] σ K) : PW (d + 1) M_Mod_lookFrom 201 [.ref x0, uu, .int x2, uu, uu, uu] [] σ K := by
  refine pw_iincv (v := 1) dc_Mod_lookFrom_201 (by decide) rfl (by decide) ?_
  refine pw_goto (tgt := 158) dc_Mod_lookFrom_204 (by decide) ?_
  exact h
theorem dc_Mod_addMessage_0 : decode M_Mod_addMessage.2.1 0 = .ok (.aload_n 0, 1) := by decide +kernel
theorem dc_Mod_addMessage_1 : decode M_Mod_addMessage.2.1 1 = .ok (.dup, 1) := by decide +kernel
theorem dc_Mod_addMessage_2 : decode M_Mod_addMessage.2.1 2 = .ok (.getfield 247, 3) := by decide +kernel
theorem dc_Mod_addMessage_5 : decode M_Mod_addMessage.2.1 5 = .ok (.iconst 1, 1) := by decide +kernel
theorem dc_Mod_addMessage_6 : decode M_Mod_addMessage.2.1 6 = .ok (.iadd, 1) := by decide +kernel
theorem dc_Mod_addMessage_7 : decode M_Mod_addMessage.2.1 7 = .ok (.putfield 247, 3) := by decide +kernel
theorem dc_Mod_addMessage_10 : decode M_Mod_addMessage.2.1 10 = .ok (.aload_n 0, 1) := by decide +kernel
theorem dc_Mod_addMessage_11 : decode M_Mod_addMessage.2.1 11 = .ok (.getfield 247, 3) := by decide +kernel
theorem dc_Mod_addMessage_14 : decode M_Mod_addMessage.2.1 14 = .ok (.istore_n 1, 1) := by decide +kernel
theorem dc_Mod_addMessage_15 : decode M_Mod_addMessage.2.1 15 = .ok (.aload_n 0, 1) := by decide +kernel
theorem dc_Mod_addMessage_16 : decode M_Mod_addMessage.2.1 16 = .ok (.getfield 52, 3) := by decide +kernel
theorem dc_Mod_addMessage_19 : decode M_Mod_addMessage.2.1 19 = .ok (.iload_n 1, 1) := by decide +kernel
theorem dc_Mod_addMessage_20 : decode M_Mod_addMessage.2.1 20 = .ok (.aload_n 0, 1) := by decide +kernel
theorem dc_Mod_addMessage_21 : decode M_Mod_addMessage.2.1 21 = .ok (.getfield 211, 3) := by decide +kernel
theorem dc_Mod_addMessage_24 : decode M_Mod_addMessage.2.1 24 = .ok (.iastore, 1) := by decide +kernel
theorem dc_Mod_addMessage_25 : decode M_Mod_addMessage.2.1 25 = .ok (.aload_n 0, 1) := by decide +kernel
theorem dc_Mod_addMessage_26 : decode M_Mod_addMessage.2.1 26 = .ok (.getfield 55, 3) := by decide +kernel
theorem dc_Mod_addMessage_29 : decode M_Mod_addMessage.2.1 29 = .ok (.iload_n 1, 1) := by decide +kernel
theorem dc_Mod_addMessage_30 : decode M_Mod_addMessage.2.1 30 = .ok (.aload_n 0, 1) := by decide +kernel
theorem dc_Mod_addMessage_31 : decode M_Mod_addMessage.2.1 31 = .ok (.getfield 189, 3) := by decide +kernel
theorem dc_Mod_addMessage_34 : decode M_Mod_addMessage.2.1 34 = .ok (.aload_n 0, 1) := by decide +kernel
theorem dc_Mod_addMessage_35 : decode M_Mod_addMessage.2.1 35 = .ok (.getfield 214, 3) := by decide +kernel
theorem dc_Mod_addMessage_38 : decode M_Mod_addMessage.2.1 38 = .ok (.isub, 1) := by decide +kernel
theorem dc_Mod_addMessage_39 : decode M_Mod_addMessage.2.1 39 = .ok (.iastore, 1) := by decide +kernel
theorem dc_Mod_addMessage_40 : decode M_Mod_addMessage.2.1 40 = .ok (.iconst 0, 1) := by decide +kernel
theorem dc_Mod_addMessage_41 : decode M_Mod_addMessage.2.1 41 = .ok (.istore_n 2, 1) := by decide +kernel
theorem dc_Mod_addMessage_42 : decode M_Mod_addMessage.2.1 42 = .ok (.iload_n 2, 1) := by decide +kernel
theorem dc_Mod_addMessage_43 : decode M_Mod_addMessage.2.1 43 = .ok (.aload_n 0, 1) := by decide +kernel
theorem dc_Mod_addMessage_44 : decode M_Mod_addMessage.2.1 44 = .ok (.getfield 55, 3) := by decide +kernel
theorem dc_Mod_addMessage_47 : decode M_Mod_addMessage.2.1 47 = .ok (.iload_n 1, 1) := by decide +kernel
theorem dc_Mod_addMessage_48 : decode M_Mod_addMessage.2.1 48 = .ok (.iaload, 1) := by decide +kernel
theorem dc_Mod_addMessage_49 : decode M_Mod_addMessage.2.1 49 = .ok (.if_icmp .ge 29, 3) := by decide +kernel
theorem dc_Mod_addMessage_52 : decode M_Mod_addMessage.2.1 52 = .ok (.aload_n 0, 1) := by decide +kernel
theorem dc_Mod_addMessage_53 : decode M_Mod_addMessage.2.1 53 = .ok (.getfield 58, 3) := by decide +kernel
theorem dc_Mod_addMessage_56 : decode M_Mod_addMessage.2.1 56 = .ok (.iconst 4, 1) := by decide +kernel
theorem dc_Mod_addMessage_57 : decode M_Mod_addMessage.2.1 57 = .ok (.iload_n 1, 1) := by decide +kernel
theorem dc_Mod_addMessage_58 : decode M_Mod_addMessage.2.1 58 = .ok (.imul, 1) := by decide +kernel
theorem dc_Mod_addMessage_59 : decode M_Mod_addMessage.2.1 59 = .ok (.iload_n 2, 1) := by decide +kernel
theorem dc_Mod_addMessage_60 : decode M_Mod_addMessage.2.1 60 = .ok (.iadd, 1) := by decide +kernel
theorem dc_Mod_addMessage_61 : decode M_Mod_addMessage.2.1 61 = .ok (.aload_n 0, 1) := by decide +kernel
theorem dc_Mod_addMessage_62 : decode M_Mod_addMessage.2.1 62 = .ok (.aload_n 0, 1) := by decide +kernel
theorem dc_Mod_addMessage_63 : decode M_Mod_addMessage.2.1 63 = .ok (.getfield 214, 3) := by decide +kernel
theorem dc_Mod_addMessage_66 : decode M_Mod_addMessage.2.1 66 = .ok (.iload_n 2, 1) := by decide +kernel
theorem dc_Mod_addMessage_67 : decode M_Mod_addMessage.2.1 67 = .ok (.iadd, 1) := by decide +kernel
theorem dc_Mod_addMessage_68 : decode M_Mod_addMessage.2.1 68 = .ok (.invokevirtual 282, 3) := by decide +kernel
theorem dc_Mod_addMessage_71 : decode M_Mod_addMessage.2.1 71 = .ok (.iastore, 1) := by decide +kernel
theorem dc_Mod_addMessage_72 : decode M_Mod_addMessage.2.1 72 = .ok (.iinc 2 1, 3) := by decide +kernel
theorem dc_Mod_addMessage_75 : decode M_Mod_addMessage.2.1 75 = .ok (.goto (-33), 3) := by decide +kernel
theorem dc_Mod_addMessage_78 : decode M_Mod_addMessage.2.1 78 = .ok (.aload_n 0, 1) := by decide +kernel
theorem dc_Mod_addMessage_79 : decode M_Mod_addMessage.2.1 79 = .ok (.getfield 61, 3) := by decide +kernel
theorem dc_Mod_addMessage_82 : decode M_Mod_addMessage.2.1 82 = .ok (.iload_n 1, 1) := by decide +kernel
theorem dc_Mod_addMessage_83 : decode M_Mod_addMessage.2.1 83 = .ok (.aload_n 0, 1) := by decide +kernel
theorem dc_Mod_addMessage_84 : decode M_Mod_addMessage.2.1 84 = .ok (.getfield 178, 3) := by decide +kernel
theorem dc_Mod_addMessage_87 : decode M_Mod_addMessage.2.1 87 = .ok (.aload_n 0, 1) := by decide +kernel
theorem dc_Mod_addMessage_88 : decode M_Mod_addMessage.2.1 88 = .ok (.getfield 192, 3) := by decide +kernel
theorem dc_Mod_addMessage_91 : decode M_Mod_addMessage.2.1 91 = .ok (.isub, 1) := by decide +kernel
theorem dc_Mod_addMessage_92 : decode M_Mod_addMessage.2.1 92 = .ok (.iastore, 1) := by decide +kernel
theorem dc_Mod_addMessage_93 : decode M_Mod_addMessage.2.1 93 = .ok (.iconst 0, 1) := by decide +kernel
theorem dc_Mod_addMessage_94 : decode M_Mod_addMessage.2.1 94 = .ok (.istore_n 2, 1) := by decide +kernel
theorem dc_Mod_addMessage_95 : decode M_Mod_addMessage.2.1 95 = .ok (.iload_n 2, 1) := by decide +kernel
theorem dc_Mod_addMessage_96 : decode M_Mod_addMessage.2.1 96 = .ok (.aload_n 0, 1) := by decide +kernel
theorem dc_Mod_addMessage_97 : decode M_Mod_addMessage.2.1 97 = .ok (.getfield 61, 3) := by decide +kernel
theorem dc_Mod_addMessage_100 : decode M_Mod_addMessage.2.1 100 = .ok (.iload_n 1, 1) := by decide +kernel
theorem dc_Mod_addMessage_101 : decode M_Mod_addMessage.2.1 101 = .ok (.iaload, 1) := by decide +kernel
theorem dc_Mod_addMessage_102 : decode M_Mod_addMessage.2.1 102 = .ok (.if_icmp .ge 31, 3) := by decide +kernel
theorem dc_Mod_addMessage_105 : decode M_Mod_addMessage.2.1 105 = .ok (.aload_n 0, 1) := by decide +kernel
theorem dc_Mod_addMessage_106 : decode M_Mod_addMessage.2.1 106 = .ok (.getfield 64, 3) := by decide +kernel
theorem dc_Mod_addMessage_109 : decode M_Mod_addMessage.2.1 109 = .ok (.bipush 64, 2) := by decide +kernel
theorem dc_Mod_addMessage_111 : decode M_Mod_addMessage.2.1 111 = .ok (.iload_n 1, 1) := by decide +kernel
theorem dc_Mod_addMessage_112 : decode M_Mod_addMessage.2.1 112 = .ok (.imul, 1) := by decide +kernel
theorem dc_Mod_addMessage_113 : decode M_Mod_addMessage.2.1 113 = .ok (.iload_n 2, 1) := by decide +kernel
theorem dc_Mod_addMessage_114 : decode M_Mod_addMessage.2.1 114 = .ok (.iadd, 1) := by decide +kernel
theorem dc_Mod_addMessage_115 : decode M_Mod_addMessage.2.1 115 = .ok (.aload_n 0, 1) := by decide +kernel
theorem dc_Mod_addMessage_116 : decode M_Mod_addMessage.2.1 116 = .ok (.getfield 115, 3) := by decide +kernel
theorem dc_Mod_addMessage_119 : decode M_Mod_addMessage.2.1 119 = .ok (.aload_n 0, 1) := by decide +kernel
theorem dc_Mod_addMessage_120 : decode M_Mod_addMessage.2.1 120 = .ok (.getfield 192, 3) := by decide +kernel
theorem dc_Mod_addMessage_123 : decode M_Mod_addMessage.2.1 123 = .ok (.iload_n 2, 1) := by decide +kernel
theorem dc_Mod_addMessage_124 : decode M_Mod_addMessage.2.1 124 = .ok (.iadd, 1) := by decide +kernel
theorem dc_Mod_addMessage_125 : decode M_Mod_addMessage.2.1 125 = .ok (.caload, 1) := by decide +kernel
theorem dc_Mod_addMessage_126 : decode M_Mod_addMessage.2.1 126 = .ok (.castore, 1) := by decide +kernel
theorem dc_Mod_addMessage_127 : decode M_Mod_addMessage.2.1 127 = .ok (.iinc 2 1, 3) := by decide +kernel
theorem dc_Mod_addMessage_130 : decode M_Mod_addMessage.2.1 130 = .ok (.goto (-35), 3) := by decide +kernel
theorem dc_Mod_addMessage_133 : decode M_Mod_addMessage.2.1 133 = .ok (.iconst 0, 1) := by decide +kernel
theorem dc_Mod_addMessage_134 : decode M_Mod_addMessage.2.1 134 = .ok (.istore_n 2, 1) := by decide +kernel
theorem dc_Mod_addMessage_135 : decode M_Mod_addMessage.2.1 135 = .ok (.iload_n 2, 1) := by decide +kernel
theorem dc_Mod_addMessage_136 : decode M_Mod_addMessage.2.1 136 = .ok (.bipush 8, 2) := by decide +kernel
theorem dc_Mod_addMessage_138 : decode M_Mod_addMessage.2.1 138 = .ok (.if_icmp .ge 34, 3) := by decide +kernel
theorem dc_Mod_addMessage_141 : decode M_Mod_addMessage.2.1 141 = .ok (.aload_n 0, 1) := by decide +kernel
theorem dc_Mod_addMessage_142 : decode M_Mod_addMessage.2.1 142 = .ok (.getfield 67, 3) := by decide +kernel
theorem dc_Mod_addMessage_145 : decode M_Mod_addMessage.2.1 145 = .ok (.bipush 8, 2) := by decide +kernel
theorem dc_Mod_addMessage_147 : decode M_Mod_addMessage.2.1 147 = .ok (.iload_n 1, 1) := by decide +kernel
theorem dc_Mod_addMessage_148 : decode M_Mod_addMessage.2.1 148 = .ok (.imul, 1) := by decide +kernel
theorem dc_Mod_addMessage_149 : decode M_Mod_addMessage.2.1 149 = .ok (.iload_n 2, 1) := by decide +kernel
theorem dc_Mod_addMessage_150 : decode M_Mod_addMessage.2.1 150 = .ok (.iadd, 1) := by decide +kernel
theorem dc_Mod_addMessage_151 : decode M_Mod_addMessage.2.1 151 = .ok (.aload_n 0, 1) := by decide +kernel
theorem dc_Mod_addMessage_152 : decode M_Mod_addMessage.2.1 152 = .ok (.getfield 124, 3) := by decide +kernel
theorem dc_Mod_addMessage_155 : decode M_Mod_addMessage.2.1 155 = .ok (.iload_n 2, 1) := by decide +kernel
theorem dc_Mod_addMessage_156 : decode M_Mod_addMessage.2.1 156 = .ok (.baload, 1) := by decide +kernel
theorem dc_Mod_addMessage_157 : decode M_Mod_addMessage.2.1 157 = .ok (.ifCond .eq 7, 3) := by decide +kernel
theorem dc_Mod_addMessage_160 : decode M_Mod_addMessage.2.1 160 = .ok (.iconst 1, 1) := by decide +kernel
theorem dc_Mod_addMessage_161 : decode M_Mod_addMessage.2.1 161 = .ok (.goto 4, 3) := by decide +kernel
theorem dc_Mod_addMessage_164 : decode M_Mod_addMessage.2.1 164 = .ok (.iconst 0, 1) := by decide +kernel
theorem dc_Mod_addMessage_165 : decode M_Mod_addMessage.2.1 165 = .ok (.iastore, 1) := by decide +kernel
theorem dc_Mod_addMessage_166 : decode M_Mod_addMessage.2.1 166 = .ok (.iinc 2 1, 3) := by decide +kernel
theorem dc_Mod_addMessage_169 : decode M_Mod_addMessage.2.1 169 = .ok (.goto (-34), 3) := by decide +kernel
theorem dc_Mod_addMessage_172 : decode M_Mod_addMessage.2.1 172 = .ok (.return_, 1) := by decide +kernel
set_option maxRecDepth 20000 in
theorem e_Mod_addMessage_0 {d : Nat} {σ : PH} {K : PO → PH → Prop} (x0 : Nat) (h : sh σ x0 = (1, 11) ∧ (∀ σ1 : PH, σ1 = pI σ 719 x0 ((gI σ 719 x0) + 1) → sh σ1 x0 = (1, 11) ∧ (∃ b1 : Nat, gR σ1 720 x0 = some b1 ∧ (∃ n1 : Nat, sh σ1 b1 = (2, n1) ∧ vp_in (gI σ1 719 x0) n1 ∧ (∀ σ2 : PH, σ2 = uI σ1 b1 (ix (gI σ1 719 x0)) (gI σ1 749 x0) → sh σ2 x0 = (1, 11) ∧ (∃ b2 : Nat, gR σ2 721 x0 = some b2 ∧ (∃ n2 : Nat, sh σ2 b2 = (2, n2) ∧ vp_in (gI σ1 719 x0) n2 ∧ (∀ σ3 : PH, σ3 = uI σ2 b2 (ix (gI σ1 719 x0)) ((gI σ2 745 x0) - (gI σ2 750 x0)) → PW (d + 1) M_Mod_addMessage 42 [.ref x0, .int (gI σ1 719 x0), .int 0] [] σ3 K)))))))) : PW (d + 1) M_Mod_addMessage 0 [.ref x0, uu, uu] [] σ K := by
  refine pw_aload_n dc_Mod_addMessage_0 rfl rfl ?_
  refine pw_dup dc_Mod_addMessage_1 rfl ?_
  obtain ⟨hs1, h⟩ := h
  refine pw_getI (c := 11) (k := 15) (f := 719) dc_Mod_addMessage_2 fl_Mod_247 rfl rfl hs1 ?_
  refine pw_iconst (v := 1) dc_Mod_addMessage_5 (by decide) ?_
  refine pw_iadd dc_Mod_addMessage_6 ?_
  have h := h _ rfl
  refine pw_putI (c := 11) (k := 15) (f := 719) dc_Mod_addMessage_7 fl_Mod_247 (Or.inl rfl) rfl rfl hs1 ?_
  refine pw_aload_n dc_Mod_addMessage_10 rfl rfl ?_
  obtain ⟨hs2, h⟩ := h
  refine pw_getI (c := 11) (k := 15) (f := 719) dc_Mod_addMessage_11 fl_Mod_247 rfl rfl hs2 ?_
  refine pw_istore_n dc_Mod_addMessage_14 (by decide) ?_
  refine pw_aload_n dc_Mod_addMessage_15 rfl rfl ?_
  refine pw_getR (c := 11) (k := 16) (f := 720) dc_Mod_addMessage_16 fl_Mod_52 rfl rfl hs2 ?_
  obtain ⟨b1, hb1, h⟩ := h
  refine PW.top (v' := .ref b1) (congrArg va_rf hb1) ?_
  refine pw_iload_n dc_Mod_addMessage_19 rfl ?_
  refine pw_aload_n dc_Mod_addMessage_20 rfl rfl ?_
  refine pw_getI (c := 11) (k := 45) (f := 749) dc_Mod_addMessage_21 fl_Mod_211 rfl rfl hs2 ?_
  obtain ⟨n1, hs3, h⟩ := h
  obtain ⟨hi1, h⟩ := h
  have h := h _ rfl
  refine pw_iast dc_Mod_addMessage_24 hs3 hi1 ?_
  refine pw_aload_n dc_Mod_addMessage_25 rfl rfl ?_
  obtain ⟨hs4, h⟩ := h
  refine pw_getR (c := 11) (k := 17) (f := 721) dc_Mod_addMessage_26 fl_Mod_55 rfl rfl hs4 ?_
  obtain ⟨b2, hb2, h⟩ := h
  refine PW.top (v' := .ref b2) (congrArg va_rf hb2) ?_
  refine pw_iload_n dc_Mod_addMessage_29 rfl ?_
  refine pw_aload_n dc_Mod_addMessage_30 rfl rfl ?_
  refine pw_getI (c := 11) (k := 41) (f := 745) dc_Mod_addMessage_31 fl_Mod_189 rfl rfl hs4 ?_
  refine pw_aload_n dc_Mod_addMessage_34 rfl rfl ?_
  refine pw_getI (c := 11) (k := 46) (f := 750) dc_Mod_addMessage_35 fl_Mod_214 rfl rfl hs4 ?_
  refine pw_isub dc_Mod_addMessage_38 ?_
  obtain ⟨n2, hs5, h⟩ := h
  obtain ⟨hi2, h⟩ := h
  have h := h _ rfl
  refine pw_iast dc_Mod_addMessage_39 hs5 hi2 ?_
  refine pw_iconst (v := 0) dc_Mod_addMessage_40 (by decide) ?_
  refine pw_istore_n dc_Mod_addMessage_41 (by decide) ?_
  exact h
set_option maxRecDepth 20000 in
theorem e_Mod_addMessage_42 {d : Nat} {σ : PH} {K : PO → PH → Prop} (x0 : Nat) (x1 : Int32) (x2 : Int32) (h : sh σ x0 = (1, 11) ∧ (∃ b1 : Nat, gR σ 721 x0 = some b1 ∧ (∃ n1 : Nat, sh σ b1 = (2, n1) ∧ vp_in x1 n1 ∧ (if (eI σ b1 (ix x1)) ≤ x2 then (∃ b2 : Nat, gR σ 723 x0 = some b2 ∧ (∃ n2 : Nat, sh σ b2 = (2, n2) ∧ vp_in x1 n2 ∧ (∀ σ1 : PH, σ1 = uI σ b2 (ix x1) ((gI σ 742 x0) - (gI σ 751 x0)) → PW (d + 1) M_Mod_addMessage 95 [.ref x0, .int x1, .int 0] [] σ1 K))) else (∃ b3 : Nat, gR σ 722 x0 = some b3 ∧ PW d M_Mod_indicatorOf 0 [.ref x0, .int ((gI σ 750 x0) + x2), uu, uu] [] σ (kI (fun r1 σ2 => (∃ n3 : Nat, sh σ2 b3 = (2, n3) ∧ vp_in ((4 * x1) + x2) n3 ∧ (∀ σ3 : PH, σ3 = uI σ2 b3 (ix ((4 * x1) + x2)) r1 → PW (d + 1) M_Mod_addMessage 42 [.ref x0, .int x1, .int (x2 + 1)] [] σ3 K))) K)))))) : PW (d + 1) M_Mod_addMessage 42 [.ref x0, .int x1, .int x2] [] σ K := by
  refine pw_iload_n dc_Mod_addMessage_42 rfl ?_
  refine pw_aload_n dc_Mod_addMessage_43 rfl rfl ?_
  obtain ⟨hs1, h⟩ := h
  refine pw_getR (c := 11) (k := 17) (f := 721) dc_Mod_addMessage_44 fl_Mod_55 rfl rfl hs1 ?_
  obtain ⟨b1, hb1, h⟩ := h
  refine PW.top (v' := .ref b1) (congrArg va_rf hb1) ?_
  refine pw_iload_n dc_Mod_addMessage_47 rfl ?_
  obtain ⟨n1, hs2, h⟩ := h
  obtain ⟨hi1, h⟩ := h
  refine pw_iald dc_Mod_addMessage_48 hs2 hi1 ?_
  refine pw_icmp_ge (tgt := 78) dc_Mod_addMessage_49 (by decide) (fun hc => ?_) (fun hc => ?_)
  · have h := ite_t h hc
    refine pw_aload_n dc_Mod_addMessage_78 rfl rfl ?_
    refine pw_getR (c := 11) (k := 19) (f := 723) dc_Mod_addMessage_79 fl_Mod_61 rfl rfl hs1 ?_
    obtain ⟨b2, hb2, h⟩ := h
    refine PW.top (v' := .ref b2) (congrArg va_rf hb2) ?_
    refine pw_iload_n dc_Mod_addMessage_82 rfl ?_
    refine pw_aload_n dc_Mod_addMessage_83 rfl rfl ?_
    refine pw_getI (c := 11) (k := 38) (f := 742) dc_Mod_addMessage_84 fl_Mod_178 rfl rfl hs1 ?_
    refine pw_aload_n dc_Mod_addMessage_87 rfl rfl ?_
    refine pw_getI (c := 11) (k := 47) (f := 751) dc_Mod_addMessage_88 fl_Mod_192 rfl rfl hs1 ?_
    refine pw_isub dc_Mod_addMessage_91 ?_
    obtain ⟨n2, hs3, h⟩ := h
    obtain ⟨hi2, h⟩ := h
    have h := h _ rfl
    refine pw_iast dc_Mod_addMessage_92 hs3 hi2 ?_
    refine pw_iconst (v := 0) dc_Mod_addMessage_93 (by decide) ?_
    refine pw_istore_n dc_Mod_addMessage_94 (by decide) ?_
    exact h
  · have h := ite_f h hc
    refine pw_aload_n dc_Mod_addMessage_52 rfl rfl ?_
    refine pw_getR (c := 11) (k := 18) (f := 722) dc_Mod_addMessage_53 fl_Mod_58 rfl rfl hs1 ?_
    obtain ⟨b3, hb3, h⟩ := h
    refine PW.top (v' := .ref b3) (congrArg va_rf hb3) ?_
    refine pw_iconst (v := 4) dc_Mod_addMessage_56 (by decide) ?_
    refine pw_iload_n dc_Mod_addMessage_57 rfl ?_
    refine pw_imul dc_Mod_addMessage_58 ?_
    refine pw_iload_n dc_Mod_addMessage_59 rfl ?_
    refine pw_iadd dc_Mod_addMessage_60 ?_
    refine pw_aload_n dc_Mod_addMessage_61 rfl rfl ?_
    refine pw_aload_n dc_Mod_addMessage_62 rfl rfl ?_
    refine pw_getI (c := 11) (k := 46) (f := 750) dc_Mod_addMessage_63 fl_Mod_214 rfl rfl hs1 ?_
    refine pw_iload_n dc_Mod_addMessage_66 rfl ?_
    refine pw_iadd dc_Mod_addMessage_67 ?_
    refine pw_callV (vs := [.int ((gI σ 750 x0) + x2)]) (st := [.int ((4 * x1) + x2), .ref b3]) (b := x0) (cn := 11) dc_Mod_addMessage_68 cq_Mod_indicatorOf (List.mem_of_getElem? (i := 1220) (by decide +kernel)) (List.mem_of_getElem? (i := 44) (by decide +kernel)) (List.mem_of_getElem? (i := 1218) (by decide +kernel)) rfl hs1 rfl rfl (by decide) (cat_cons rfl (cat_nil)) (Nat.le_of_ble_eq_true rfl) (PW.mono (kI_kN (fun r1 σ2 h => ?_)) h)
    obtain ⟨n3, hs4, h⟩ := h
    obtain ⟨hi3, h⟩ := h
    have h := h _ rfl
    refine pw_iast dc_Mod_addMessage_71 hs4 hi3 ?_
    refine pw_iincv (v := 1) dc_Mod_addMessage_72 (by decide) rfl (by decide) ?_
    refine pw_goto (tgt := 42) dc_Mod_addMessage_75 (by decide) ?_
    exact h
set_option maxRecDepth 20000 in
theorem e_Mod_addMessage_95 {d : Nat} {σ : PH} {K : PO → PH → Prop} (x0 : Nat) (x1 : Int32) (x2 : Int32) (h : sh σ x0 = (1, 11) ∧ (∃ b1 : Nat, gR σ 723 x0 = some b1 ∧ (∃ n1 : Nat, sh σ b1 = (2, n1) ∧ vp_in x1 n1 ∧ (if (eI σ b1 (ix x1)) ≤ x2 then PW (d + 1) M_Mod_addMessage 135 [.ref x0, .int x1, .int 0] [] σ K else (∃ b2 : Nat, gR σ 724 x0 = some b2 ∧ (∃ b3 : Nat, gR σ 743 x0 = some b3 ∧ (∃ n2 : Nat, sh σ b3 = (3, n2) ∧ vp_in ((gI σ 751 x0) + x2) n2 ∧ (∃ n3 : Nat, sh σ b2 = (3, n3) ∧ vp_in ((64 * x1) + x2) n3 ∧ ch (eI σ b3 (ix ((gI σ 751 x0) + x2))) ∧ (∀ σ1 : PH, σ1 = uI σ b2 (ix ((64 * x1) + x2)) (eI σ b3 (ix ((gI σ 751 x0) + x2))) → PW (d + 1) M_Mod_addMessage 95 [.ref x0, .int x1, .int (x2 + 1)] [] σ1 K))))))))) : PW (d + 1) M_Mod_addMessage 95 [.ref x0, .int x1, .int x2] [] σ K := by
  refine pw_iload_n dc_Mod_addMessage_95 rfl ?_
  refine pw_aload_n dc_Mod_addMessage_96 rfl rfl ?_
  obtain ⟨hs1, h⟩ := h
  refine pw_getR (c := 11) (k := 19) (f := 723) dc_Mod_addMessage_97 fl_Mod_61 rfl rfl hs1 ?_
  obtain ⟨b1, hb1, h⟩ := h
  refine PW.top (v' := .ref b1) (congrArg va_rf hb1) ?_
  refine pw_iload_n dc_Mod_addMessage_100 rfl ?_
  obtain ⟨n1, hs2, h⟩ := h
  obtain ⟨hi1, h⟩ := h
  refine pw_iald dc_Mod_addMessage_101 hs2 hi1 ?_
  refine pw_icmp_ge (tgt := 133) dc_Mod_addMessage_102 (by decide) (fun hc => ?_) (fun hc => ?_)
  · have h := ite_t h hc
    refine pw_iconst (v := 0) dc_Mod_addMessage_133 (by decide) ?_
    refine pw_istore_n dc_Mod_addMessage_134 (by decide) ?_
    exact h
  · have h := ite_f h hc
    refine pw_aload_n dc_Mod_addMessage_105 rfl rfl ?_
    refine pw_getR (c := 11) (k := 20) (f := 724) dc_Mod_addMessage_106 fl_Mod_64 rfl rfl hs1 ?_
    obtain ⟨b2, hb2, h⟩ := h
    refine PW.top (v' := .ref b2) (congrArg va_rf hb2) ?_
    refine pw_bipush (v := 64) dc_Mod_addMessage_109 (by decide) ?_
    refine pw_iload_n dc_Mod_addMessage_111 rfl ?_
    refine pw_imul dc_Mod_addMessage_112 ?_
    refine pw_iload_n dc_Mod_addMessage_113 rfl ?_
    refine pw_iadd dc_Mod_addMessage_114 ?_
    refine pw_aload_n dc_Mod_addMessage_115 rfl rfl ?_
    refine pw_getR (c := 11) (k := 39) (f := 743) dc_Mod_addMessage_116 fl_Mod_115 rfl rfl hs1 ?_
    obtain ⟨b3, hb3, h⟩ := h
    refine PW.top (v' := .ref b3) (congrArg va_rf hb3) ?_
    refine pw_aload_n dc_Mod_addMessage_119 rfl rfl ?_
    refine pw_getI (c := 11) (k := 47) (f := 751) dc_Mod_addMessage_120 fl_Mod_192 rfl rfl hs1 ?_
    refine pw_iload_n dc_Mod_addMessage_123 rfl ?_
    refine pw_iadd dc_Mod_addMessage_124 ?_
    obtain ⟨n2, hs3, h⟩ := h
    obtain ⟨hi2, h⟩ := h
    refine pw_cald dc_Mod_addMessage_125 hs3 hi2 ?_
    obtain ⟨n3, hs4, h⟩ := h
    obtain ⟨hi3, h⟩ := h
    obtain ⟨hc1, h⟩ := h
    have h := h _ rfl
    refine pw_cast dc_Mod_addMessage_126 hs4 hi3 hc1 ?_
    refine pw_iincv (v := 1) dc_Mod_addMessage_127 (by decide) rfl (by decide) ?_
    refine pw_goto (tgt := 95) dc_Mod_addMessage_130 (by decide) ?_
    exact h
set_option maxRecDepth 20000 in
theorem e_Mod_addMessage_135 {d : Nat} {σ : PH} {K : PO → PH → Prop} (x0 : Nat) (x1 : Int32) (x2 : Int32) (h : (if 8 ≤ x2 then K (.inl none) σ else sh σ x0 = (1, 11) ∧ (∃ b1 : Nat, gR σ 725 x0 = some b1 ∧ (∃ b2 : Nat, gR σ 752 x0 = some b2 ∧ (∃ n1 : Nat, sh σ b2 = (4, n1) ∧ vp_in x2 n1 ∧ (if (eI σ b2 (ix x2)) = 0 then PW (d + 1) M_Mod_addMessage 165 [.ref x0, .int x1, .int x2] [.int 0, .int ((8 * x1) + x2), .ref b1] σ K else PW (d + 1) M_Mod_addMessage 165 [.ref x0, .int x1, .int x2] [.int 1, .int ((8 * x1) + x2), .ref b1] σ K)))))) : PW (d + 1) M_Mod_addMessage 135 [.ref x0, .int x1, .int x2] [] σ K := by
  refine pw_iload_n dc_Mod_addMessage_135 rfl ?_
  refine pw_bipush (v := 8) dc_Mod_addMessage_136 (by decide) ?_
  refine pw_icmp_ge (tgt := 172) dc_Mod_addMessage_138 (by decide) (fun hc => ?_) (fun hc => ?_)
  · have h := ite_t h hc
    exact pw_vret dc_Mod_addMessage_172 rfl h
  · have h := ite_f h hc
    refine pw_aload_n dc_Mod_addMessage_141 rfl rfl ?_
    obtain ⟨hs1, h⟩ := h
    refine pw_getR (c := 11) (k := 21) (f := 725) dc_Mod_addMessage_142 fl_Mod_67 rfl rfl hs1 ?_
    obtain ⟨b1, hb1, h⟩ := h
    refine PW.top (v' := .ref b1) (congrArg va_rf hb1) ?_
    refine pw_bipush (v := 8) dc_Mod_addMessage_145 (by decide) ?_
    refine pw_iload_n dc_Mod_addMessage_147 rfl ?_
    refine pw_imul dc_Mod_addMessage_148 ?_
    refine pw_iload_n dc_Mod_addMessage_149 rfl ?_
    refine pw_iadd dc_Mod_addMessage_150 ?_
    refine pw_aload_n dc_Mod_addMessage_151 rfl rfl ?_
    refine pw_getR (c := 11) (k := 48) (f := 752) dc_Mod_addMessage_152 fl_Mod_124 rfl rfl hs1 ?_
    obtain ⟨b2, hb2, h⟩ := h
    refine PW.top (v' := .ref b2) (congrArg va_rf hb2) ?_
    refine pw_iload_n dc_Mod_addMessage_155 rfl ?_
    obtain ⟨n1, hs2, h⟩ := h
    obtain ⟨hi1, h⟩ := h
    refine pw_zald dc_Mod_addMessage_156 hs2 hi1 ?_
    refine pw_if_eq (tgt := 164) dc_Mod_addMessage_157 (by decide) (fun hc => ?_) (fun hc => ?_)
    · have h := ite_t h hc
      refine pw_iconst (v := 0) dc_Mod_addMessage_164 (by decide) ?_
      exact h
    · have h := ite_f h hc
      refine pw_iconst (v := 1) dc_Mod_addMessage_160 (by decide) ?_
      refine pw_goto (tgt := 165) dc_Mod_addMessage_161 (by decide) ?_
      exact h
set_option maxRecDepth 20000 in
theorem e_Mod_addMessage_165 {d : Nat} {σ : PH} {K : PO → PH → Prop} (x0 : Nat) (x1 : Int32) (x2 : Int32) (y0 : Int32) (y1 : Int32) (y2 : Nat) (h : (∃ n1 : Nat, sh σ y2 = (2, n1) ∧ vp_in y1 n1 ∧ (∀ σ1 : PH, σ1 = uI σ y2 (ix y1) y0 → PW (d + 1) M_Mod_addMessage 135 [.ref x0, .int x1, .int (x2 + 1)] [] σ1 K))) : PW (d + 1) M_Mod_addMessage 165 [.ref x0, .int x1, .int x2] [.int y0, .int y1, .ref y2] σ K := by
  obtain ⟨n1, hs1, h⟩ := h
  obtain ⟨hi1, h⟩ := h
  have h := h _ rfl
  refine pw_iast dc_Mod_addMessage_165 hs1 hi1 ?_
  refine pw_iincv (v := 1) dc_Mod_addMessage_166 (by decide) rfl (by decide) ?_
  refine pw_goto (tgt := 135) dc_Mod_addMessage_169 (by decide) ?_
  exact h
theorem dc_Mod_open_0 : decode M_Mod_open.2.1 0 = .ok (.aload_n 0, 1) := by decide +kernel
theorem dc_Mod_open_1 : decode M_Mod_open.2.1 1 = .ok (.iload_n 1, 1) := by decide +kernel
theorem dc_Mod_open_2 : decode M_Mod_open.2.1 2 = .ok (.invokestatic 160, 3) := by decide +kernel
theorem dc_Mod_open_5 : decode M_Mod_open.2.1 5 = .ok (.ifCond .eq 7, 3) := by decide +kernel
theorem dc_Mod_open_8 : decode M_Mod_open.2.1 8 = .ok (.iconst 0, 1) := by decide +kernel
theorem dc_Mod_open_9 : decode M_Mod_open.2.1 9 = .ok (.goto 4, 3) := by decide +kernel
theorem dc_Mod_open_12 : decode M_Mod_open.2.1 12 = .ok (.iconst 1, 1) := by decide +kernel
theorem dc_Mod_open_13 : decode M_Mod_open.2.1 13 = .ok (.invokevirtual 164, 3) := by decide +kernel
theorem dc_Mod_open_16 : decode M_Mod_open.2.1 16 = .ok (.ifCond .eq 5, 3) := by decide +kernel
theorem dc_Mod_open_19 : decode M_Mod_open.2.1 19 = .ok (.iconst 0, 1) := by decide +kernel
theorem dc_Mod_open_20 : decode M_Mod_open.2.1 20 = .ok (.ireturn, 1) := by decide +kernel
theorem dc_Mod_open_21 : decode M_Mod_open.2.1 21 = .ok (.aload_n 0, 1) := by decide +kernel
theorem dc_Mod_open_22 : decode M_Mod_open.2.1 22 = .ok (.getfield 7, 3) := by decide +kernel
theorem dc_Mod_open_25 : decode M_Mod_open.2.1 25 = .ok (.iload_n 1, 1) := by decide +kernel
theorem dc_Mod_open_26 : decode M_Mod_open.2.1 26 = .ok (.baload, 1) := by decide +kernel
theorem dc_Mod_open_27 : decode M_Mod_open.2.1 27 = .ok (.ifCond .ne 7, 3) := by decide +kernel
theorem dc_Mod_open_30 : decode M_Mod_open.2.1 30 = .ok (.iconst 1, 1) := by decide +kernel
theorem dc_Mod_open_31 : decode M_Mod_open.2.1 31 = .ok (.goto 4, 3) := by decide +kernel
theorem dc_Mod_open_34 : decode M_Mod_open.2.1 34 = .ok (.iconst 0, 1) := by decide +kernel
theorem dc_Mod_open_35 : decode M_Mod_open.2.1 35 = .ok (.istore_n 3, 1) := by decide +kernel
theorem dc_Mod_open_36 : decode M_Mod_open.2.1 36 = .ok (.aload_n 0, 1) := by decide +kernel
theorem dc_Mod_open_37 : decode M_Mod_open.2.1 37 = .ok (.getfield 7, 3) := by decide +kernel
theorem dc_Mod_open_40 : decode M_Mod_open.2.1 40 = .ok (.iload_n 1, 1) := by decide +kernel
theorem dc_Mod_open_41 : decode M_Mod_open.2.1 41 = .ok (.iload_n 2, 1) := by decide +kernel
theorem dc_Mod_open_42 : decode M_Mod_open.2.1 42 = .ok (.ifCond .ne 7, 3) := by decide +kernel
theorem dc_Mod_open_45 : decode M_Mod_open.2.1 45 = .ok (.iconst 1, 1) := by decide +kernel
theorem dc_Mod_open_46 : decode M_Mod_open.2.1 46 = .ok (.goto 4, 3) := by decide +kernel
theorem dc_Mod_open_49 : decode M_Mod_open.2.1 49 = .ok (.iconst 0, 1) := by decide +kernel
theorem dc_Mod_open_50 : decode M_Mod_open.2.1 50 = .ok (.bastore, 1) := by decide +kernel
theorem dc_Mod_open_51 : decode M_Mod_open.2.1 51 = .ok (.iload_n 2, 1) := by decide +kernel
theorem dc_Mod_open_52 : decode M_Mod_open.2.1 52 = .ok (.ifCond .ne 22, 3) := by decide +kernel
theorem dc_Mod_open_55 : decode M_Mod_open.2.1 55 = .ok (.aload_n 0, 1) := by decide +kernel
theorem dc_Mod_open_56 : decode M_Mod_open.2.1 56 = .ok (.iload_n 1, 1) := by decide +kernel
theorem dc_Mod_open_57 : decode M_Mod_open.2.1 57 = .ok (.invokevirtual 181, 3) := by decide +kernel
theorem dc_Mod_open_60 : decode M_Mod_open.2.1 60 = .ok (.aload_n 0, 1) := by decide +kernel
theorem dc_Mod_open_61 : decode M_Mod_open.2.1 61 = .ok (.getfield 28, 3) := by decide +kernel
theorem dc_Mod_open_64 : decode M_Mod_open.2.1 64 = .ok (.iload_n 1, 1) := by decide +kernel
theorem dc_Mod_open_65 : decode M_Mod_open.2.1 65 = .ok (.iconst 0, 1) := by decide +kernel
theorem dc_Mod_open_66 : decode M_Mod_open.2.1 66 = .ok (.iastore, 1) := by decide +kernel
theorem dc_Mod_open_67 : decode M_Mod_open.2.1 67 = .ok (.aload_n 0, 1) := by decide +kernel
theorem dc_Mod_open_68 : decode M_Mod_open.2.1 68 = .ok (.getfield 94, 3) := by decide +kernel
theorem dc_Mod_open_71 : decode M_Mod_open.2.1 71 = .ok (.iload_n 1, 1) := by decide +kernel
theorem dc_Mod_open_72 : decode M_Mod_open.2.1 72 = .ok (.iconst 0, 1) := by decide +kernel
theorem dc_Mod_open_73 : decode M_Mod_open.2.1 73 = .ok (.iastore, 1) := by decide +kernel
theorem dc_Mod_open_74 : decode M_Mod_open.2.1 74 = .ok (.iload_n 3, 1) := by decide +kernel
theorem dc_Mod_open_75 : decode M_Mod_open.2.1 75 = .ok (.ireturn, 1) := by decide +kernel
set_option maxRecDepth 20000 in
theorem e_Mod_open_0 {d : Nat} {σ : PH} {K : PO → PH → Prop} (x0 : Nat) (x1 : Int32) (x2 : Int32) (h : PW d M_Mod_isChannel 0 [.int x1] [] σ (kI (fun r1 σ1 => (if r1 = 0 then PW (d + 1) M_Mod_open 13 [.ref x0, .int x1, .int x2, uu] [.int 1, .ref x0] σ1 K else PW (d + 1) M_Mod_open 13 [.ref x0, .int x1, .int x2, uu] [.int 0, .ref x0] σ1 K)) K)) : PW (d + 1) M_Mod_open 0 [.ref x0, .int x1, .int x2, uu] [] σ K := by
  refine pw_aload_n dc_Mod_open_0 rfl rfl ?_
  refine pw_iload_n dc_Mod_open_1 rfl ?_
  refine pw_callS (vs := [.int x1]) (st := [.ref x0]) dc_Mod_open_2 cq_Mod_isChannel (List.mem_of_getElem? (i := 1129) (by decide +kernel)) (List.mem_of_getElem? (i := 1128) (by decide +kernel)) rfl rfl (cat_cons rfl (cat_nil)) (Nat.le_of_ble_eq_true rfl) (PW.mono (kI_kN (fun r1 σ1 h => ?_)) h)
  refine pw_if_eq (tgt := 12) dc_Mod_open_5 (by decide) (fun hc => ?_) (fun hc => ?_)
  · have h := ite_t h hc
    refine pw_iconst (v := 1) dc_Mod_open_12 (by decide) ?_
    exact h
  · have h := ite_f h hc
    refine pw_iconst (v := 0) dc_Mod_open_8 (by decide) ?_
    refine pw_goto (tgt := 13) dc_Mod_open_9 (by decide) ?_
    exact h
set_option maxRecDepth 20000 in
theorem e_Mod_open_13 {d : Nat} {σ : PH} {K : PO → PH → Prop} (x0 : Nat) (x1 : Int32) (x2 : Int32) (y0 : Int32) (y1 : Nat) (h : sh σ y1 = (1, 11) ∧ PW d M_Mod_refused 0 [.ref y1, .int y0] [] σ (kI (fun r1 σ1 => (if r1 = 0 then sh σ1 x0 = (1, 11) ∧ (∃ b1 : Nat, gR σ1 705 x0 = some b1 ∧ (∃ n1 : Nat, sh σ1 b1 = (4, n1) ∧ vp_in x1 n1 ∧ (if (eI σ1 b1 (ix x1)) = 0 then PW (d + 1) M_Mod_open 35 [.ref x0, .int x1, .int x2, uu] [.int 1] σ1 K else PW (d + 1) M_Mod_open 35 [.ref x0, .int x1, .int x2, uu] [.int 0] σ1 K))) else K (.inl (some (.int 0))) σ1)) K)) : PW (d + 1) M_Mod_open 13 [.ref x0, .int x1, .int x2, uu] [.int y0, .ref y1] σ K := by
  obtain ⟨hs1, h⟩ := h
  refine pw_callV (vs := [.int y0]) (st := []) (b := y1) (cn := 11) dc_Mod_open_13 cq_Mod_refused (List.mem_of_getElem? (i := 1136) (by decide +kernel)) (List.mem_of_getElem? (i := 26) (by decide +kernel)) (List.mem_of_getElem? (i := 1134) (by decide +kernel)) rfl hs1 rfl rfl (by decide) (cat_cons rfl (cat_nil)) (Nat.le_of_ble_eq_true rfl) (PW.mono (kI_kN (fun r1 σ1 h => ?_)) h)
  refine pw_if_eq (tgt := 21) dc_Mod_open_16 (by decide) (fun hc => ?_) (fun hc => ?_)
  · have h := ite_t h hc
    refine pw_aload_n dc_Mod_open_21 rfl rfl ?_
    obtain ⟨hs2, h⟩ := h
    refine pw_getR (c := 11) (k := 1) (f := 705) dc_Mod_open_22 fl_Mod_7 rfl rfl hs2 ?_
    obtain ⟨b1, hb1, h⟩ := h
    refine PW.top (v' := .ref b1) (congrArg va_rf hb1) ?_
    refine pw_iload_n dc_Mod_open_25 rfl ?_
    obtain ⟨n1, hs3, h⟩ := h
    obtain ⟨hi1, h⟩ := h
    refine pw_zald dc_Mod_open_26 hs3 hi1 ?_
    refine pw_if_ne (tgt := 34) dc_Mod_open_27 (by decide) (fun hc => ?_) (fun hc => ?_)
    · have h := ite_f h hc
      refine pw_iconst (v := 0) dc_Mod_open_34 (by decide) ?_
      exact h
    · have h := ite_t h hc
      refine pw_iconst (v := 1) dc_Mod_open_30 (by decide) ?_
      refine pw_goto (tgt := 35) dc_Mod_open_31 (by decide) ?_
      exact h
  · have h := ite_f h hc
    refine pw_iconst (v := 0) dc_Mod_open_19 (by decide) ?_
    exact pw_iret dc_Mod_open_20 rfl (bo_nar (Or.inl rfl)) h
set_option maxRecDepth 20000 in
theorem e_Mod_open_35 {d : Nat} {σ : PH} {K : PO → PH → Prop} (x0 : Nat) (x1 : Int32) (x2 : Int32) (y0 : Int32) (h : sh σ x0 = (1, 11) ∧ (∃ b1 : Nat, gR σ 705 x0 = some b1 ∧ (if x2 = 0 then PW (d + 1) M_Mod_open 50 [.ref x0, .int x1, .int x2, .int y0] [.int 1, .int x1, .ref b1] σ K else PW (d + 1) M_Mod_open 50 [.ref x0, .int x1, .int x2, .int y0] [.int 0, .int x1, .ref b1] σ K))) : PW (d + 1) M_Mod_open 35 [.ref x0, .int x1, .int x2, uu] [.int y0] σ K := by
  refine pw_istore_n dc_Mod_open_35 (by decide) ?_
  refine pw_aload_n dc_Mod_open_36 rfl rfl ?_
  obtain ⟨hs1, h⟩ := h
  refine pw_getR (c := 11) (k := 1) (f := 705) dc_Mod_open_37 fl_Mod_7 rfl rfl hs1 ?_
  obtain ⟨b1, hb1, h⟩ := h
  refine PW.top (v' := .ref b1) (congrArg va_rf hb1) ?_
  refine pw_iload_n dc_Mod_open_40 rfl ?_
  refine pw_iload_n dc_Mod_open_41 rfl ?_
  refine pw_if_ne (tgt := 49) dc_Mod_open_42 (by decide) (fun hc => ?_) (fun hc => ?_)
  · have h := ite_f h hc
    refine pw_iconst (v := 0) dc_Mod_open_49 (by decide) ?_
    exact h
  · have h := ite_t h hc
    refine pw_iconst (v := 1) dc_Mod_open_45 (by decide) ?_
    refine pw_goto (tgt := 50) dc_Mod_open_46 (by decide) ?_
    exact h
set_option maxRecDepth 20000 in
theorem e_Mod_open_50 {d : Nat} {σ : PH} {K : PO → PH → Prop} (x0 : Nat) (x1 : Int32) (x2 : Int32) (x3 : Int32) (y0 : Int32) (y1 : Int32) (y2 : Nat) (h : (∃ n1 : Nat, sh σ y2 = (4, n1) ∧ vp_in y1 n1 ∧ bo y0 ∧ (∀ σ1 : PH, σ1 = uI σ y2 (ix y1) y0 → (if x2 = 0 then sh σ1 x0 = (1, 11) ∧ PW d M_Mod_forget 0 [.ref x0, .int x1] [] σ1 (kV (fun σ2 => sh σ2 x0 = (1, 11) ∧ (∃ b1 : Nat, gR σ2 710 x0 = some b1 ∧ (∃ n2 : Nat, sh σ2 b1 = (2, n2) ∧ vp_in x1 n2 ∧ (∀ σ3 : PH, σ3 = uI σ2 b1 (ix x1) 0 → sh σ3 x0 = (1, 11) ∧ (∃ b2 : Nat, gR σ3 735 x0 = some b2 ∧ (∃ n3 : Nat, sh σ3 b2 = (2, n3) ∧ vp_in x1 n3 ∧ (∀ σ4 : PH, σ4 = uI σ3 b2 (ix x1) 0 → bo x3 ∧ K (.inl (some (.int x3))) σ4))))))) K) else bo x3 ∧ K (.inl (some (.int x3))) σ1)))) : PW (d + 1) M_Mod_open 50 [.ref x0, .int x1, .int x2, .int x3] [.int y0, .int y1, .ref y2] σ K := by
  obtain ⟨n1, hs1, h⟩ := h
  obtain ⟨hi1, h⟩ := h
  obtain ⟨hz1, h⟩ := h
  have h := h _ rfl
  refine pw_zast dc_Mod_open_50 hs1 hi1 hz1 ?_
  refine pw_iload_n dc_Mod_open_51 rfl ?_
  refine pw_if_ne (tgt := 74) dc_Mod_open_52 (by decide) (fun hc => ?_) (fun hc => ?_)
  · have h := ite_f h hc
    refine pw_iload_n dc_Mod_open_74 rfl ?_
    exact pw_iret dc_Mod_open_75 rfl (bo_nar h.1) h.2
  · have h := ite_t h hc
    refine pw_aload_n dc_Mod_open_55 rfl rfl ?_
    refine pw_iload_n dc_Mod_open_56 rfl ?_
    obtain ⟨hs2, h⟩ := h
    refine pw_callV (vs := [.int x1]) (st := []) (b := x0) (cn := 11) dc_Mod_open_57 cq_Mod_forget (List.mem_of_getElem? (i := 1155) (by decide +kernel)) (List.mem_of_getElem? (i := 30) (by decide +kernel)) (List.mem_of_getElem? (i := 1153) (by decide +kernel)) rfl hs2 rfl rfl (by decide) (cat_cons rfl (cat_nil)) (Nat.le_of_ble_eq_true rfl) (PW.mono (kV_kN (fun σ2 h => ?_)) h)
    refine pw_aload_n dc_Mod_open_60 rfl rfl ?_
    obtain ⟨hs3, h⟩ := h
    refine pw_getR (c := 11) (k := 6) (f := 710) dc_Mod_open_61 fl_Mod_28 rfl rfl hs3 ?_
    obtain ⟨b1, hb1, h⟩ := h
    refine PW.top (v' := .ref b1) (congrArg va_rf hb1) ?_
    refine pw_iload_n dc_Mod_open_64 rfl ?_
    refine pw_iconst (v := 0) dc_Mod_open_65 (by decide) ?_
    obtain ⟨n2, hs4, h⟩ := h
    obtain ⟨hi2, h⟩ := h
    have h := h _ rfl
    refine pw_iast dc_Mod_open_66 hs4 hi2 ?_
    refine pw_aload_n dc_Mod_open_67 rfl rfl ?_
    obtain ⟨hs5, h⟩ := h
    refine pw_getR (c := 11) (k := 31) (f := 735) dc_Mod_open_68 fl_Mod_94 rfl rfl hs5 ?_
    obtain ⟨b2, hb2, h⟩ := h
    refine PW.top (v' := .ref b2) (congrArg va_rf hb2) ?_
    refine pw_iload_n dc_Mod_open_71 rfl ?_
    refine pw_iconst (v := 0) dc_Mod_open_72 (by decide) ?_
    obtain ⟨n3, hs6, h⟩ := h
    obtain ⟨hi3, h⟩ := h
    have h := h _ rfl
    refine pw_iast dc_Mod_open_73 hs6 hi3 ?_
    refine pw_iload_n dc_Mod_open_74 rfl ?_
    exact pw_iret dc_Mod_open_75 rfl (bo_nar h.1) h.2
theorem dc_Mod_put_0 : decode M_Mod_put.2.1 0 = .ok (.aload_n 0, 1) := by decide +kernel
theorem dc_Mod_put_1 : decode M_Mod_put.2.1 1 = .ok (.getfield 127, 3) := by decide +kernel
theorem dc_Mod_put_4 : decode M_Mod_put.2.1 4 = .ok (.aload_n 0, 1) := by decide +kernel
theorem dc_Mod_put_5 : decode M_Mod_put.2.1 5 = .ok (.getfield 291, 3) := by decide +kernel
theorem dc_Mod_put_8 : decode M_Mod_put.2.1 8 = .ok (.iload_n 1, 1) := by decide +kernel
theorem dc_Mod_put_9 : decode M_Mod_put.2.1 9 = .ok (.castore, 1) := by decide +kernel
theorem dc_Mod_put_10 : decode M_Mod_put.2.1 10 = .ok (.aload_n 0, 1) := by decide +kernel
theorem dc_Mod_put_11 : decode M_Mod_put.2.1 11 = .ok (.dup, 1) := by decide +kernel
theorem dc_Mod_put_12 : decode M_Mod_put.2.1 12 = .ok (.getfield 291, 3) := by decide +kernel
theorem dc_Mod_put_15 : decode M_Mod_put.2.1 15 = .ok (.iconst 1, 1) := by decide +kernel
theorem dc_Mod_put_16 : decode M_Mod_put.2.1 16 = .ok (.iadd, 1) := by decide +kernel
theorem dc_Mod_put_17 : decode M_Mod_put.2.1 17 = .ok (.putfield 291, 3) := by decide +kernel
theorem dc_Mod_put_20 : decode M_Mod_put.2.1 20 = .ok (.return_, 1) := by decide +kernel
set_option maxRecDepth 20000 in
theorem e_Mod_put_0 {d : Nat} {σ : PH} {K : PO → PH → Prop} (x0 : Nat) (x1 : Int32) (h : sh σ x0 = (1, 11) ∧ (∃ b1 : Nat, gR σ 755 x0 = some b1 ∧ (∃ n1 : Nat, sh σ b1 = (3, n1) ∧ vp_in (gI σ 754 x0) n1 ∧ ch x1 ∧ (∀ σ1 : PH, σ1 = uI σ b1 (ix (gI σ 754 x0)) x1 → sh σ1 x0 = (1, 11) ∧ (∀ σ2 : PH, σ2 = pI σ1 754 x0 ((gI σ1 754 x0) + 1) → K (.inl none) σ2))))) : PW d M_Mod_put 0 [.ref x0, .int x1] [] σ K := by
  refine pw_aload_n dc_Mod_put_0 rfl rfl ?_
  obtain ⟨hs1, h⟩ := h
  refine pw_getR (c := 11) (k := 51) (f := 755) dc_Mod_put_1 fl_Mod_127 rfl rfl hs1 ?_
  obtain ⟨b1, hb1, h⟩ := h
  refine PW.top (v' := .ref b1) (congrArg va_rf hb1) ?_
  refine pw_aload_n dc_Mod_put_4 rfl rfl ?_
  refine pw_getI (c := 11) (k := 50) (f := 754) dc_Mod_put_5 fl_Mod_291 rfl rfl hs1 ?_
  refine pw_iload_n dc_Mod_put_8 rfl ?_
  obtain ⟨n1, hs2, h⟩ := h
  obtain ⟨hi1, h⟩ := h
  obtain ⟨hc1, h⟩ := h
  have h := h _ rfl
  refine pw_cast dc_Mod_put_9 hs2 hi1 hc1 ?_
  refine pw_aload_n dc_Mod_put_10 rfl rfl ?_
  refine pw_dup dc_Mod_put_11 rfl ?_
  obtain ⟨hs3, h⟩ := h
  refine pw_getI (c := 11) (k := 50) (f := 754) dc_Mod_put_12 fl_Mod_291 rfl rfl hs3 ?_
  refine pw_iconst (v := 1) dc_Mod_put_15 (by decide) ?_
  refine pw_iadd dc_Mod_put_16 ?_
  have h := h _ rfl
  refine pw_putI (c := 11) (k := 50) (f := 754) dc_Mod_put_17 fl_Mod_291 (Or.inl rfl) rfl rfl hs3 ?_
  exact pw_vret dc_Mod_put_20 rfl h
theorem dc_Mod_putDigits_0 : decode M_Mod_putDigits.2.1 0 = .ok (.aload_n 0, 1) := by decide +kernel
theorem dc_Mod_putDigits_1 : decode M_Mod_putDigits.2.1 1 = .ok (.bipush 48, 2) := by decide +kernel
theorem dc_Mod_putDigits_3 : decode M_Mod_putDigits.2.1 3 = .ok (.iload_n 1, 1) := by decide +kernel
theorem dc_Mod_putDigits_4 : decode M_Mod_putDigits.2.1 4 = .ok (.bipush 100, 2) := by decide +kernel
theorem dc_Mod_putDigits_6 : decode M_Mod_putDigits.2.1 6 = .ok (.idiv, 1) := by decide +kernel
theorem dc_Mod_putDigits_7 : decode M_Mod_putDigits.2.1 7 = .ok (.iadd, 1) := by decide +kernel
theorem dc_Mod_putDigits_8 : decode M_Mod_putDigits.2.1 8 = .ok (.i2c, 1) := by decide +kernel
theorem dc_Mod_putDigits_9 : decode M_Mod_putDigits.2.1 9 = .ok (.invokevirtual 294, 3) := by decide +kernel
theorem dc_Mod_putDigits_12 : decode M_Mod_putDigits.2.1 12 = .ok (.aload_n 0, 1) := by decide +kernel
theorem dc_Mod_putDigits_13 : decode M_Mod_putDigits.2.1 13 = .ok (.bipush 48, 2) := by decide +kernel
theorem dc_Mod_putDigits_15 : decode M_Mod_putDigits.2.1 15 = .ok (.iload_n 1, 1) := by decide +kernel
theorem dc_Mod_putDigits_16 : decode M_Mod_putDigits.2.1 16 = .ok (.bipush 10, 2) := by decide +kernel
theorem dc_Mod_putDigits_18 : decode M_Mod_putDigits.2.1 18 = .ok (.idiv, 1) := by decide +kernel
theorem dc_Mod_putDigits_19 : decode M_Mod_putDigits.2.1 19 = .ok (.bipush 10, 2) := by decide +kernel
theorem dc_Mod_putDigits_21 : decode M_Mod_putDigits.2.1 21 = .ok (.irem, 1) := by decide +kernel
theorem dc_Mod_putDigits_22 : decode M_Mod_putDigits.2.1 22 = .ok (.iadd, 1) := by decide +kernel
theorem dc_Mod_putDigits_23 : decode M_Mod_putDigits.2.1 23 = .ok (.i2c, 1) := by decide +kernel
theorem dc_Mod_putDigits_24 : decode M_Mod_putDigits.2.1 24 = .ok (.invokevirtual 294, 3) := by decide +kernel
theorem dc_Mod_putDigits_27 : decode M_Mod_putDigits.2.1 27 = .ok (.aload_n 0, 1) := by decide +kernel
theorem dc_Mod_putDigits_28 : decode M_Mod_putDigits.2.1 28 = .ok (.bipush 48, 2) := by decide +kernel
theorem dc_Mod_putDigits_30 : decode M_Mod_putDigits.2.1 30 = .ok (.iload_n 1, 1) := by decide +kernel
theorem dc_Mod_putDigits_31 : decode M_Mod_putDigits.2.1 31 = .ok (.bipush 10, 2) := by decide +kernel
theorem dc_Mod_putDigits_33 : decode M_Mod_putDigits.2.1 33 = .ok (.irem, 1) := by decide +kernel
theorem dc_Mod_putDigits_34 : decode M_Mod_putDigits.2.1 34 = .ok (.iadd, 1) := by decide +kernel
theorem dc_Mod_putDigits_35 : decode M_Mod_putDigits.2.1 35 = .ok (.i2c, 1) := by decide +kernel
theorem dc_Mod_putDigits_36 : decode M_Mod_putDigits.2.1 36 = .ok (.invokevirtual 294, 3) := by decide +kernel
theorem dc_Mod_putDigits_39 : decode M_Mod_putDigits.2.1 39 = .ok (.return_, 1) := by decide +kernel
set_option maxRecDepth 20000 in
theorem e_Mod_putDigits_0 {d : Nat} {σ : PH} {K : PO → PH → Prop} (x0 : Nat) (x1 : Int32) (h : sh σ x0 = (1, 11) ∧ PW d M_Mod_put 0 [.ref x0, .int (((48 + (x1 / 100)).toUInt32 % 65536).toInt32)] [] σ (kV (fun σ1 => sh σ1 x0 = (1, 11) ∧ PW d M_Mod_put 0 [.ref x0, .int (((48 + ((x1 / 10) - (x1 / 10) / 10 * 10)).toUInt32 % 65536).toInt32)] [] σ1 (kV (fun σ2 => sh σ2 x0 = (1, 11) ∧ PW d M_Mod_put 0 [.ref x0, .int (((48 + (x1 - x1 / 10 * 10)).toUInt32 % 65536).toInt32)] [] σ2 (kV (fun σ3 => K (.inl none) σ3) K)) K)) K)) : PW (d + 1) M_Mod_putDigits 0 [.ref x0, .int x1] [] σ K := by
  refine pw_aload_n dc_Mod_putDigits_0 rfl rfl ?_
  refine pw_bipush (v := 48) dc_Mod_putDigits_1 (by decide) ?_
  refine pw_iload_n dc_Mod_putDigits_3 rfl ?_
  refine pw_bipush (v := 100) dc_Mod_putDigits_4 (by decide) ?_
  refine pw_idiv dc_Mod_putDigits_6 (by decide) ?_
  refine pw_iadd dc_Mod_putDigits_7 ?_
  refine pw_i2c dc_Mod_putDigits_8 ?_
  obtain ⟨hs1, h⟩ := h
  refine pw_callV (vs := [.int (((48 + (x1 / 100)).toUInt32 % 65536).toInt32)]) (st := []) (b := x0) (cn := 11) dc_Mod_putDigits_9 cq_Mod_put (List.mem_of_getElem? (i := 1292) (by decide +kernel)) (List.mem_of_getElem? (i := 55) (by decide +kernel)) (List.mem_of_getElem? (i := 1290) (by decide +kernel)) rfl hs1 rfl rfl (by decide) (cat_cons rfl (cat_nil)) (Nat.le_of_ble_eq_true rfl) (PW.mono (kV_kN (fun σ1 h => ?_)) h)
  refine pw_aload_n dc_Mod_putDigits_12 rfl rfl ?_
  refine pw_bipush (v := 48) dc_Mod_putDigits_13 (by decide) ?_
  refine pw_iload_n dc_Mod_putDigits_15 rfl ?_
  refine pw_bipush (v := 10) dc_Mod_putDigits_16 (by decide) ?_
  refine pw_idiv dc_Mod_putDigits_18 (by decide) ?_
  refine pw_bipush (v := 10) dc_Mod_putDigits_19 (by decide) ?_
  refine pw_irem dc_Mod_putDigits_21 (by decide) ?_
  refine pw_iadd dc_Mod_putDigits_22 ?_
  refine pw_i2c dc_Mod_putDigits_23 ?_
  obtain ⟨hs2, h⟩ := h
  refine pw_callV (vs := [.int (((48 + ((x1 / 10) - (x1 / 10) / 10 * 10)).toUInt32 % 65536).toInt32)]) (st := []) (b := x0) (cn := 11) dc_Mod_putDigits_24 cq_Mod_put (List.mem_of_getElem? (i := 1292) (by decide +kernel)) (List.mem_of_getElem? (i := 55) (by decide +kernel)) (List.mem_of_getElem? (i := 1290) (by decide +kernel)) rfl hs2 rfl rfl (by decide) (cat_cons rfl (cat_nil)) (Nat.le_of_ble_eq_true rfl) (PW.mono (kV_kN (fun σ2 h => ?_)) h)
  refine pw_aload_n dc_Mod_putDigits_27 rfl rfl ?_
  refine pw_bipush (v := 48) dc_Mod_putDigits_28 (by decide) ?_
  refine pw_iload_n dc_Mod_putDigits_30 rfl ?_
  refine pw_bipush (v := 10) dc_Mod_putDigits_31 (by decide) ?_
  refine pw_irem dc_Mod_putDigits_33 (by decide) ?_
  refine pw_iadd dc_Mod_putDigits_34 ?_
  refine pw_i2c dc_Mod_putDigits_35 ?_
  obtain ⟨hs3, h⟩ := h
  refine pw_callV (vs := [.int (((48 + (x1 - x1 / 10 * 10)).toUInt32 % 65536).toInt32)]) (st := []) (b := x0) (cn := 11) dc_Mod_putDigits_36 cq_Mod_put (List.mem_of_getElem? (i := 1292) (by decide +kernel)) (List.mem_of_getElem? (i := 55) (by decide +kernel)) (List.mem_of_getElem? (i := 1290) (by decide +kernel)) rfl hs3 rfl rfl (by decide) (cat_cons rfl (cat_nil)) (Nat.le_of_ble_eq_true rfl) (PW.mono (kV_kN (fun σ3 h => ?_)) h)
  exact pw_vret dc_Mod_putDigits_39 rfl h
theorem dc_Mod_write_0 : decode M_Mod_write.2.1 0 = .ok (.aload_n 0, 1) := by decide +kernel
theorem dc_Mod_write_1 : decode M_Mod_write.2.1 1 = .ok (.getfield 85, 3) := by decide +kernel
theorem dc_Mod_write_4 : decode M_Mod_write.2.1 4 = .ok (.iload_n 1, 1) := by decide +kernel
theorem dc_Mod_write_5 : decode M_Mod_write.2.1 5 = .ok (.iaload, 1) := by decide +kernel
theorem dc_Mod_write_6 : decode M_Mod_write.2.1 6 = .ok (.istore_n 2, 1) := by decide +kernel
theorem dc_Mod_write_7 : decode M_Mod_write.2.1 7 = .ok (.aload_n 0, 1) := by decide +kernel
theorem dc_Mod_write_8 : decode M_Mod_write.2.1 8 = .ok (.iconst 0, 1) := by decide +kernel
theorem dc_Mod_write_9 : decode M_Mod_write.2.1 9 = .ok (.putfield 291, 3) := by decide +kernel
theorem dc_Mod_write_12 : decode M_Mod_write.2.1 12 = .ok (.aload_n 0, 1) := by decide +kernel
theorem dc_Mod_write_13 : decode M_Mod_write.2.1 13 = .ok (.aload_n 0, 1) := by decide +kernel
theorem dc_Mod_write_14 : decode M_Mod_write.2.1 14 = .ok (.getfield 88, 3) := by decide +kernel
theorem dc_Mod_write_17 : decode M_Mod_write.2.1 17 = .ok (.iload_n 1, 1) := by decide +kernel
theorem dc_Mod_write_18 : decode M_Mod_write.2.1 18 = .ok (.iaload, 1) := by decide +kernel
theorem dc_Mod_write_19 : decode M_Mod_write.2.1 19 = .ok (.invokevirtual 298, 3) := by decide +kernel
theorem dc_Mod_write_22 : decode M_Mod_write.2.1 22 = .ok (.aload_n 0, 1) := by decide +kernel
theorem dc_Mod_write_23 : decode M_Mod_write.2.1 23 = .ok (.bipush 32, 2) := by decide +kernel
theorem dc_Mod_write_25 : decode M_Mod_write.2.1 25 = .ok (.invokevirtual 294, 3) := by decide +kernel
theorem dc_Mod_write_28 : decode M_Mod_write.2.1 28 = .ok (.aload_n 0, 1) := by decide +kernel
theorem dc_Mod_write_29 : decode M_Mod_write.2.1 29 = .ok (.getfield 91, 3) := by decide +kernel
theorem dc_Mod_write_32 : decode M_Mod_write.2.1 32 = .ok (.iload_n 1, 1) := by decide +kernel
theorem dc_Mod_write_33 : decode M_Mod_write.2.1 33 = .ok (.baload, 1) := by decide +kernel
theorem dc_Mod_write_34 : decode M_Mod_write.2.1 34 = .ok (.ifCond .eq 15, 3) := by decide +kernel
theorem dc_Mod_write_37 : decode M_Mod_write.2.1 37 = .ok (.aload_n 0, 1) := by decide +kernel
theorem dc_Mod_write_38 : decode M_Mod_write.2.1 38 = .ok (.bipush 82, 2) := by decide +kernel
theorem dc_Mod_write_40 : decode M_Mod_write.2.1 40 = .ok (.invokevirtual 294, 3) := by decide +kernel
theorem dc_Mod_write_43 : decode M_Mod_write.2.1 43 = .ok (.aload_n 0, 1) := by decide +kernel
theorem dc_Mod_write_44 : decode M_Mod_write.2.1 44 = .ok (.bipush 32, 2) := by decide +kernel
theorem dc_Mod_write_46 : decode M_Mod_write.2.1 46 = .ok (.invokevirtual 294, 3) := by decide +kernel
theorem dc_Mod_write_49 : decode M_Mod_write.2.1 49 = .ok (.aload_n 0, 1) := by decide +kernel
theorem dc_Mod_write_50 : decode M_Mod_write.2.1 50 = .ok (.bipush 48, 2) := by decide +kernel
theorem dc_Mod_write_52 : decode M_Mod_write.2.1 52 = .ok (.aload_n 0, 1) := by decide +kernel
theorem dc_Mod_write_53 : decode M_Mod_write.2.1 53 = .ok (.getfield 52, 3) := by decide +kernel
theorem dc_Mod_write_56 : decode M_Mod_write.2.1 56 = .ok (.iload_n 2, 1) := by decide +kernel
theorem dc_Mod_write_57 : decode M_Mod_write.2.1 57 = .ok (.iaload, 1) := by decide +kernel
theorem dc_Mod_write_58 : decode M_Mod_write.2.1 58 = .ok (.iadd, 1) := by decide +kernel
theorem dc_Mod_write_59 : decode M_Mod_write.2.1 59 = .ok (.i2c, 1) := by decide +kernel
theorem dc_Mod_write_60 : decode M_Mod_write.2.1 60 = .ok (.invokevirtual 294, 3) := by decide +kernel
theorem dc_Mod_write_63 : decode M_Mod_write.2.1 63 = .ok (.iconst 0, 1) := by decide +kernel
theorem dc_Mod_write_64 : decode M_Mod_write.2.1 64 = .ok (.istore_n 3, 1) := by decide +kernel
theorem dc_Mod_write_65 : decode M_Mod_write.2.1 65 = .ok (.iload_n 3, 1) := by decide +kernel
theorem dc_Mod_write_66 : decode M_Mod_write.2.1 66 = .ok (.aload_n 0, 1) := by decide +kernel
theorem dc_Mod_write_67 : decode M_Mod_write.2.1 67 = .ok (.getfield 55, 3) := by decide +kernel
theorem dc_Mod_write_70 : decode M_Mod_write.2.1 70 = .ok (.iload_n 2, 1) := by decide +kernel
theorem dc_Mod_write_71 : decode M_Mod_write.2.1 71 = .ok (.iaload, 1) := by decide +kernel
theorem dc_Mod_write_72 : decode M_Mod_write.2.1 72 = .ok (.if_icmp .ge 87, 3) := by decide +kernel
theorem dc_Mod_write_75 : decode M_Mod_write.2.1 75 = .ok (.aload_n 0, 1) := by decide +kernel
theorem dc_Mod_write_76 : decode M_Mod_write.2.1 76 = .ok (.bipush 32, 2) := by decide +kernel
theorem dc_Mod_write_78 : decode M_Mod_write.2.1 78 = .ok (.invokevirtual 294, 3) := by decide +kernel
theorem dc_Mod_write_81 : decode M_Mod_write.2.1 81 = .ok (.aload_n 0, 1) := by decide +kernel
theorem dc_Mod_write_82 : decode M_Mod_write.2.1 82 = .ok (.getfield 58, 3) := by decide +kernel
theorem dc_Mod_write_85 : decode M_Mod_write.2.1 85 = .ok (.iconst 4, 1) := by decide +kernel
theorem dc_Mod_write_86 : decode M_Mod_write.2.1 86 = .ok (.iload_n 2, 1) := by decide +kernel
theorem dc_Mod_write_87 : decode M_Mod_write.2.1 87 = .ok (.imul, 1) := by decide +kernel
theorem dc_Mod_write_88 : decode M_Mod_write.2.1 88 = .ok (.iload_n 3, 1) := by decide +kernel
theorem dc_Mod_write_89 : decode M_Mod_write.2.1 89 = .ok (.iadd, 1) := by decide +kernel
theorem dc_Mod_write_90 : decode M_Mod_write.2.1 90 = .ok (.iaload, 1) := by decide +kernel
theorem dc_Mod_write_91 : decode M_Mod_write.2.1 91 = .ok (.istore 4, 2) := by decide +kernel
theorem dc_Mod_write_93 : decode M_Mod_write.2.1 93 = .ok (.aload_n 0, 1) := by decide +kernel
theorem dc_Mod_write_94 : decode M_Mod_write.2.1 94 = .ok (.bipush 65, 2) := by decide +kernel
theorem dc_Mod_write_96 : decode M_Mod_write.2.1 96 = .ok (.iload 4, 2) := by decide +kernel
theorem dc_Mod_write_98 : decode M_Mod_write.2.1 98 = .ok (.sipush 17576, 3) := by decide +kernel
theorem dc_Mod_write_101 : decode M_Mod_write.2.1 101 = .ok (.idiv, 1) := by decide +kernel
theorem dc_Mod_write_102 : decode M_Mod_write.2.1 102 = .ok (.iadd, 1) := by decide +kernel
theorem dc_Mod_write_103 : decode M_Mod_write.2.1 103 = .ok (.i2c, 1) := by decide +kernel
theorem dc_Mod_write_104 : decode M_Mod_write.2.1 104 = .ok (.invokevirtual 294, 3) := by decide +kernel
theorem dc_Mod_write_107 : decode M_Mod_write.2.1 107 = .ok (.aload_n 0, 1) := by decide +kernel
theorem dc_Mod_write_108 : decode M_Mod_write.2.1 108 = .ok (.bipush 65, 2) := by decide +kernel
theorem dc_Mod_write_110 : decode M_Mod_write.2.1 110 = .ok (.iload 4, 2) := by decide +kernel
theorem dc_Mod_write_112 : decode M_Mod_write.2.1 112 = .ok (.sipush 676, 3) := by decide +kernel
theorem dc_Mod_write_115 : decode M_Mod_write.2.1 115 = .ok (.idiv, 1) := by decide +kernel
theorem dc_Mod_write_116 : decode M_Mod_write.2.1 116 = .ok (.bipush 26, 2) := by decide +kernel
theorem dc_Mod_write_118 : decode M_Mod_write.2.1 118 = .ok (.irem, 1) := by decide +kernel
theorem dc_Mod_write_119 : decode M_Mod_write.2.1 119 = .ok (.iadd, 1) := by decide +kernel
theorem dc_Mod_write_120 : decode M_Mod_write.2.1 120 = .ok (.i2c, 1) := by decide +kernel
theorem dc_Mod_write_121 : decode M_Mod_write.2.1 121 = .ok (.invokevirtual 294, 3) := by decide +kernel
theorem dc_Mod_write_124 : decode M_Mod_write.2.1 124 = .ok (.aload_n 0, 1) := by decide +kernel
theorem dc_Mod_write_125 : decode M_Mod_write.2.1 125 = .ok (.bipush 65, 2) := by decide +kernel
theorem dc_Mod_write_127 : decode M_Mod_write.2.1 127 = .ok (.iload 4, 2) := by decide +kernel
theorem dc_Mod_write_129 : decode M_Mod_write.2.1 129 = .ok (.bipush 26, 2) := by decide +kernel
theorem dc_Mod_write_131 : decode M_Mod_write.2.1 131 = .ok (.idiv, 1) := by decide +kernel
theorem dc_Mod_write_132 : decode M_Mod_write.2.1 132 = .ok (.bipush 26, 2) := by decide +kernel
theorem dc_Mod_write_134 : decode M_Mod_write.2.1 134 = .ok (.irem, 1) := by decide +kernel
theorem dc_Mod_write_135 : decode M_Mod_write.2.1 135 = .ok (.iadd, 1) := by decide +kernel
theorem dc_Mod_write_136 : decode M_Mod_write.2.1 136 = .ok (.i2c, 1) := by decide +kernel
theorem dc_Mod_write_137 : decode M_Mod_write.2.1 137 = .ok (.invokevirtual 294, 3) := by decide +kernel
theorem dc_Mod_write_140 : decode M_Mod_write.2.1 140 = .ok (.aload_n 0, 1) := by decide +kernel
theorem dc_Mod_write_141 : decode M_Mod_write.2.1 141 = .ok (.bipush 65, 2) := by decide +kernel
theorem dc_Mod_write_143 : decode M_Mod_write.2.1 143 = .ok (.iload 4, 2) := by decide +kernel
theorem dc_Mod_write_145 : decode M_Mod_write.2.1 145 = .ok (.bipush 26, 2) := by decide +kernel
theorem dc_Mod_write_147 : decode M_Mod_write.2.1 147 = .ok (.irem, 1) := by decide +kernel
theorem dc_Mod_write_148 : decode M_Mod_write.2.1 148 = .ok (.iadd, 1) := by decide +kernel
theorem dc_Mod_write_149 : decode M_Mod_write.2.1 149 = .ok (.i2c, 1) := by decide +kernel
theorem dc_Mod_write_150 : decode M_Mod_write.2.1 150 = .ok (.invokevirtual 294, 3) := by decide +kernel
theorem dc_Mod_write_153 : decode M_Mod_write.2.1 153 = .ok (.iinc 3 1, 3) := by decide +kernel
theorem dc_Mod_write_156 : decode M_Mod_write.2.1 156 = .ok (.goto (-91), 3) := by decide +kernel
theorem dc_Mod_write_159 : decode M_Mod_write.2.1 159 = .ok (.aload_n 0, 1) := by decide +kernel
theorem dc_Mod_write_160 : decode M_Mod_write.2.1 160 = .ok (.bipush 10, 2) := by decide +kernel
theorem dc_Mod_write_162 : decode M_Mod_write.2.1 162 = .ok (.invokevirtual 294, 3) := by decide +kernel
theorem dc_Mod_write_165 : decode M_Mod_write.2.1 165 = .ok (.iconst 0, 1) := by decide +kernel
theorem dc_Mod_write_166 : decode M_Mod_write.2.1 166 = .ok (.istore_n 3, 1) := by decide +kernel
theorem dc_Mod_write_167 : decode M_Mod_write.2.1 167 = .ok (.iload_n 3, 1) := by decide +kernel
theorem dc_Mod_write_168 : decode M_Mod_write.2.1 168 = .ok (.aload_n 0, 1) := by decide +kernel
theorem dc_Mod_write_169 : decode M_Mod_write.2.1 169 = .ok (.getfield 61, 3) := by decide +kernel
theorem dc_Mod_write_172 : decode M_Mod_write.2.1 172 = .ok (.iload_n 2, 1) := by decide +kernel
theorem dc_Mod_write_173 : decode M_Mod_write.2.1 173 = .ok (.iaload, 1) := by decide +kernel
theorem dc_Mod_write_174 : decode M_Mod_write.2.1 174 = .ok (.if_icmp .ge 24, 3) := by decide +kernel
theorem dc_Mod_write_177 : decode M_Mod_write.2.1 177 = .ok (.aload_n 0, 1) := by decide +kernel
theorem dc_Mod_write_178 : decode M_Mod_write.2.1 178 = .ok (.aload_n 0, 1) := by decide +kernel
theorem dc_Mod_write_179 : decode M_Mod_write.2.1 179 = .ok (.getfield 64, 3) := by decide +kernel
theorem dc_Mod_write_182 : decode M_Mod_write.2.1 182 = .ok (.bipush 64, 2) := by decide +kernel
theorem dc_Mod_write_184 : decode M_Mod_write.2.1 184 = .ok (.iload_n 2, 1) := by decide +kernel
theorem dc_Mod_write_185 : decode M_Mod_write.2.1 185 = .ok (.imul, 1) := by decide +kernel
theorem dc_Mod_write_186 : decode M_Mod_write.2.1 186 = .ok (.iload_n 3, 1) := by decide +kernel
theorem dc_Mod_write_187 : decode M_Mod_write.2.1 187 = .ok (.iadd, 1) := by decide +kernel
theorem dc_Mod_write_188 : decode M_Mod_write.2.1 188 = .ok (.caload, 1) := by decide +kernel
theorem dc_Mod_write_189 : decode M_Mod_write.2.1 189 = .ok (.invokevirtual 294, 3) := by decide +kernel
theorem dc_Mod_write_192 : decode M_Mod_write.2.1 192 = .ok (.iinc 3 1, 3) := by decide +kernel
theorem dc_Mod_write_195 : decode M_Mod_write.2.1 195 = .ok (.goto (-28), 3) := by decide +kernel
theorem dc_Mod_write_198 : decode M_Mod_write.2.1 198 = .ok (.aload_n 0, 1) := by decide +kernel
theorem dc_Mod_write_199 : decode M_Mod_write.2.1 199 = .ok (.getfield 61, 3) := by decide +kernel
theorem dc_Mod_write_202 : decode M_Mod_write.2.1 202 = .ok (.iload_n 2, 1) := by decide +kernel
theorem dc_Mod_write_203 : decode M_Mod_write.2.1 203 = .ok (.iaload, 1) := by decide +kernel
theorem dc_Mod_write_204 : decode M_Mod_write.2.1 204 = .ok (.ifCond .le 25, 3) := by decide +kernel
theorem dc_Mod_write_207 : decode M_Mod_write.2.1 207 = .ok (.aload_n 0, 1) := by decide +kernel
theorem dc_Mod_write_208 : decode M_Mod_write.2.1 208 = .ok (.getfield 127, 3) := by decide +kernel
theorem dc_Mod_write_211 : decode M_Mod_write.2.1 211 = .ok (.aload_n 0, 1) := by decide +kernel
theorem dc_Mod_write_212 : decode M_Mod_write.2.1 212 = .ok (.getfield 291, 3) := by decide +kernel
theorem dc_Mod_write_215 : decode M_Mod_write.2.1 215 = .ok (.iconst 1, 1) := by decide +kernel
theorem dc_Mod_write_216 : decode M_Mod_write.2.1 216 = .ok (.isub, 1) := by decide +kernel
theorem dc_Mod_write_217 : decode M_Mod_write.2.1 217 = .ok (.caload, 1) := by decide +kernel
theorem dc_Mod_write_218 : decode M_Mod_write.2.1 218 = .ok (.bipush 10, 2) := by decide +kernel
theorem dc_Mod_write_220 : decode M_Mod_write.2.1 220 = .ok (.if_icmp .eq 9, 3) := by decide +kernel
theorem dc_Mod_write_223 : decode M_Mod_write.2.1 223 = .ok (.aload_n 0, 1) := by decide +kernel
theorem dc_Mod_write_224 : decode M_Mod_write.2.1 224 = .ok (.bipush 10, 2) := by decide +kernel
theorem dc_Mod_write_226 : decode M_Mod_write.2.1 226 = .ok (.invokevirtual 294, 3) := by decide +kernel
theorem dc_Mod_write_229 : decode M_Mod_write.2.1 229 = .ok (.iconst 0, 1) := by decide +kernel
theorem dc_Mod_write_230 : decode M_Mod_write.2.1 230 = .ok (.istore_n 3, 1) := by decide +kernel
theorem dc_Mod_write_231 : decode M_Mod_write.2.1 231 = .ok (.iload_n 3, 1) := by decide +kernel
theorem dc_Mod_write_232 : decode M_Mod_write.2.1 232 = .ok (.iconst 4, 1) := by decide +kernel
theorem dc_Mod_write_233 : decode M_Mod_write.2.1 233 = .ok (.if_icmp .ge 15, 3) := by decide +kernel
theorem dc_Mod_write_236 : decode M_Mod_write.2.1 236 = .ok (.aload_n 0, 1) := by decide +kernel
theorem dc_Mod_write_237 : decode M_Mod_write.2.1 237 = .ok (.bipush 78, 2) := by decide +kernel
theorem dc_Mod_write_239 : decode M_Mod_write.2.1 239 = .ok (.invokevirtual 294, 3) := by decide +kernel
theorem dc_Mod_write_242 : decode M_Mod_write.2.1 242 = .ok (.iinc 3 1, 3) := by decide +kernel
theorem dc_Mod_write_245 : decode M_Mod_write.2.1 245 = .ok (.goto (-14), 3) := by decide +kernel
theorem dc_Mod_write_248 : decode M_Mod_write.2.1 248 = .ok (.aload_n 0, 1) := by decide +kernel
theorem dc_Mod_write_249 : decode M_Mod_write.2.1 249 = .ok (.bipush 10, 2) := by decide +kernel
theorem dc_Mod_write_251 : decode M_Mod_write.2.1 251 = .ok (.invokevirtual 294, 3) := by decide +kernel
theorem dc_Mod_write_254 : decode M_Mod_write.2.1 254 = .ok (.return_, 1) := by decide +kernel
set_option maxRecDepth 20000 in
theorem e_Mod_write_0 {d : Nat} {σ : PH} {K : PO → PH → Prop} (x0 : Nat) (x1 : Int32) (h : sh σ x0 = (1, 11) ∧ (∃ b1 : Nat, gR σ 732 x0 = some b1 ∧ (∃ n1 : Nat, sh σ b1 = (2, n1) ∧ vp_in x1 n1 ∧ (∀ σ1 : PH, σ1 = pI σ 754 x0 0 → sh σ1 x0 = (1, 11) ∧ (∃ b2 : Nat, gR σ1 733 x0 = some b2 ∧ (∃ n2 : Nat, sh σ1 b2 = (2, n2) ∧ vp_in x1 n2 ∧ PW d M_Mod_putDigits 0 [.ref x0, .int (eI σ1 b2 (ix x1))] [] σ1 (kV (fun σ2 => sh σ2 x0 = (1, 11) ∧ PW d M_Mod_put 0 [.ref x0, .int 32] [] σ2 (kV (fun σ3 => sh σ3 x0 = (1, 11) ∧ (∃ b3 : Nat, gR σ3 734 x0 = some b3 ∧ (∃ n3 : Nat, sh σ3 b3 = (4, n3) ∧ vp_in x1 n3 ∧ (if (eI σ3 b3 (ix x1)) = 0 then PW (d + 1) M_Mod_write 49 [.ref x0, uu, .int (eI σ b1 (ix x1)), uu, uu] [] σ3 K else PW d M_Mod_put 0 [.ref x0, .int 82] [] σ3 (kV (fun σ4 => sh σ4 x0 = (1, 11) ∧ PW d M_Mod_put 0 [.ref x0, .int 32] [] σ4 (kV (fun σ5 => PW (d + 1) M_Mod_write 49 [.ref x0, uu, .int (eI σ b1 (ix x1)), uu, uu] [] σ5 K) K)) K))))) K)) K))))))) : PW (d + 1) M_Mod_write 0 [.ref x0, .int x1, uu, uu, uu] [] σ K := by
  refine pw_aload_n dc_Mod_write_0 rfl rfl ?_
  obtain ⟨hs1, h⟩ := h
  refine pw_getR (c := 11) (k := 28) (f := 732) dc_Mod_write_1 fl_Mod_85 rfl rfl hs1 ?_
  obtain ⟨b1, hb1, h⟩ := h
  refine PW.top (v' := .ref b1) (congrArg va_rf hb1) ?_
  refine pw_iload_n dc_Mod_write_4 rfl ?_
  obtain ⟨n1, hs2, h⟩ := h
  obtain ⟨hi1, h⟩ := h
  refine pw_iald dc_Mod_write_5 hs2 hi1 ?_
  refine pw_istore_n dc_Mod_write_6 (by decide) ?_
  refine pw_aload_n dc_Mod_write_7 rfl rfl ?_
  refine pw_iconst (v := 0) dc_Mod_write_8 (by decide) ?_
  have h := h _ rfl
  refine pw_putI (c := 11) (k := 50) (f := 754) dc_Mod_write_9 fl_Mod_291 (Or.inl rfl) rfl rfl hs1 ?_
  refine pw_aload_n dc_Mod_write_12 rfl rfl ?_
  refine pw_aload_n dc_Mod_write_13 rfl rfl ?_
  obtain ⟨hs3, h⟩ := h
  refine pw_getR (c := 11) (k := 29) (f := 733) dc_Mod_write_14 fl_Mod_88 rfl rfl hs3 ?_
  obtain ⟨b2, hb2, h⟩ := h
  refine PW.top (v' := .ref b2) (congrArg va_rf hb2) ?_
  refine pw_iload_n dc_Mod_write_17 rfl ?_
  obtain ⟨n2, hs4, h⟩ := h
  obtain ⟨hi2, h⟩ := h
  refine pw_iald dc_Mod_write_18 hs4 hi2 ?_
  refine pw_callV (vs := [.int _]) (st := []) (b := x0) (cn := 11) dc_Mod_write_19 cq_Mod_putDigits (List.mem_of_getElem? (i := 1288) (by decide +kernel)) (List.mem_of_getElem? (i := 54) (by decide +kernel)) (List.mem_of_getElem? (i := 1286) (by decide +kernel)) rfl hs3 rfl rfl (by decide) (cat_cons rfl (cat_nil)) (Nat.le_of_ble_eq_true rfl) (PW.mono (kV_kN (fun σ2 h => ?_)) h)
  refine pw_aload_n dc_Mod_write_22 rfl rfl ?_
  refine pw_bipush (v := 32) dc_Mod_write_23 (by decide) ?_
  obtain ⟨hs5, h⟩ := h
  refine pw_callV (vs := [.int 32]) (st := []) (b := x0) (cn := 11) dc_Mod_write_25 cq_Mod_put (List.mem_of_getElem? (i := 1292) (by decide +kernel)) (List.mem_of_getElem? (i := 55) (by decide +kernel)) (List.mem_of_getElem? (i := 1290) (by decide +kernel)) rfl hs5 rfl rfl (by decide) (cat_cons rfl (cat_nil)) (Nat.le_of_ble_eq_true rfl) (PW.mono (kV_kN (fun σ3 h => ?_)) h)
  refine pw_aload_n dc_Mod_write_28 rfl rfl ?_
  obtain ⟨hs6, h⟩ := h
  refine pw_getR (c := 11) (k := 30) (f := 734) dc_Mod_write_29 fl_Mod_91 rfl rfl hs6 ?_
  obtain ⟨b3, hb3, h⟩ := h
  refine PW.top (v' := .ref b3) (congrArg va_rf hb3) ?_
  refine pw_iload_n dc_Mod_write_32 rfl ?_
  obtain ⟨n3, hs7, h⟩ := h
  obtain ⟨hi3, h⟩ := h
  refine pw_zald dc_Mod_write_33 hs7 hi3 ?_
  refine pw_if_eq (tgt := 49) dc_Mod_write_34 (by decide) (fun hc => ?_) (fun hc => ?_)
  · have h := ite_t h hc
    refine PW.drop (ls' := [.ref x0, uu, .int (eI σ b1 (ix x1)), uu, uu]) ⟨Or.inl rfl, Or.inr rfl, Or.inl rfl, Or.inl rfl, Or.inl rfl, trivial⟩ ?_
    exact h
  · have h := ite_f h hc
    refine pw_aload_n dc_Mod_write_37 rfl rfl ?_
    refine pw_bipush (v := 82) dc_Mod_write_38 (by decide) ?_
    refine pw_callV (vs := [.int 82]) (st := []) (b := x0) (cn := 11) dc_Mod_write_40 cq_Mod_put (List.mem_of_getElem? (i := 1292) (by decide +kernel)) (List.mem_of_getElem? (i := 55) (by decide +kernel)) (List.mem_of_getElem? (i := 1290) (by decide +kernel)) rfl hs6 rfl rfl (by decide) (cat_cons rfl (cat_nil)) (Nat.le_of_ble_eq_true rfl) (PW.mono (kV_kN (fun σ4 h => ?_)) h)
    refine pw_aload_n dc_Mod_write_43 rfl rfl ?_
    refine pw_bipush (v := 32) dc_Mod_write_44 (by decide) ?_
    obtain ⟨hs8, h⟩ := h
    refine pw_callV (vs := [.int 32]) (st := []) (b := x0) (cn := 11) dc_Mod_write_46 cq_Mod_put (List.mem_of_getElem? (i := 1292) (by decide +kernel)) (List.mem_of_getElem? (i := 55) (by decide +kernel)) (List.mem_of_getElem? (i := 1290) (by decide +kernel)) rfl hs8 rfl rfl (by decide) (cat_cons rfl (cat_nil)) (Nat.le_of_ble_eq_true rfl) (PW.mono (kV_kN (fun σ5 h => ?_)) h)
    refine PW.drop (ls' := [.ref x0, uu, .int (eI σ b1 (ix x1)), uu, uu]) ⟨Or.inl rfl, Or.inr rfl, Or.inl rfl, Or.inl rfl, Or.inl rfl, trivial⟩ ?_
    exact h
set_option maxRecDepth 20000 in
theorem e_Mod_write_49 {d : Nat} {σ : PH} {K : PO → PH → Prop} (x0 : Nat) (x2 : Int32) (h : sh σ x0 = (1, 11) ∧ (∃ b1 : Nat, gR σ 720 x0 = some b1 ∧ (∃ n1 : Nat, sh σ b1 = (2, n1) ∧ vp_in x2 n1 ∧ PW d M_Mod_put 0 [.ref x0, .int (((48 + (eI σ b1 (ix x2))).toUInt32 % 65536).toInt32)] [] σ (kV (fun σ1 => PW (d + 1) M_Mod_write 65 [.ref x0, uu, .int x2, .int 0, uu] [] σ1 K) K)))) : PW (d + 1) M_Mod_write 49 [.ref x0, uu, .int x2, uu, uu] [] σ K := by
  refine pw_aload_n dc_Mod_write_49 rfl rfl ?_
  refine pw_bipush (v := 48) dc_Mod_write_50 (by decide) ?_
  refine pw_aload_n dc_Mod_write_52 rfl rfl ?_
  obtain ⟨hs1, h⟩ := h
  refine pw_getR (c := 11) (k := 16) (f := 720) dc_Mod_write_53 fl_Mod_52 rfl rfl hs1 ?_
  obtain ⟨b1, hb1, h⟩ := h
  refine PW.top (v' := .ref b1) (congrArg va_rf hb1) ?_
  refine pw_iload_n dc_Mod_write_56 rfl ?_
  obtain ⟨n1, hs2, h⟩ := h
  obtain ⟨hi1, h⟩ := h
  refine pw_iald dc_Mod_write_57 hs2 hi1 ?_
  refine pw_iadd dc_Mod_write_58 ?_
  refine pw_i2c dc_Mod_write_59 ?_
  refine pw_callV (vs := [.int (((48 + (eI σ b1 (ix x2))).toUInt32 % 65536).toInt32)]) (st := []) (b := x0) (cn := 11) dc_Mod_write_60 cq_Mod_put (List.mem_of_getElem? (i := 1292) (by decide +kernel)) (List.mem_of_getElem? (i := 55) (by decide +kernel)) (List.mem_of_getElem? (i := 1290) (by decide +kernel)) rfl hs1 rfl rfl (by decide) (cat_cons rfl (cat_nil)) (Nat.le_of_ble_eq_true rfl) (PW.mono (kV_kN (fun σ1 h => ?_)) h)
  refine pw_iconst (v := 0) dc_Mod_write_63 (by decide) ?_
  refine pw_istore_n dc_Mod_write_64 (by decide) ?_
  exact h
set_option maxRecDepth 20000 in
theorem e_Mod_write_65 {d : Nat} {σ : PH} {K : PO → PH → Prop} (x0 : Nat) (x2 : Int32) (x3 : Int32) (h : sh σ x0 = (1, 11) ∧ (∃ b1 : Nat, gR σ 721 x0 = some b1 ∧ (∃ n1 : Nat, sh σ b1 = (2, n1) ∧ vp_in x2 n1 ∧ (if (eI σ b1 (ix x2)) ≤ x3 then PW d M_Mod_put 0 [.ref x0, .int 10] [] σ (kV (fun σ1 => PW (d + 1) M_Mod_write 167 [.ref x0, uu, .int x2, .int 0, uu] [] σ1 K) K) else PW d M_Mod_put 0 [.ref x0, .int 32] [] σ (kV (fun σ2 => sh σ2 x0 = (1, 11) ∧ (∃ b2 : Nat, gR σ2 722 x0 = some b2 ∧ (∃ n2 : Nat, sh σ2 b2 = (2, n2) ∧ vp_in ((4 * x2) + x3) n2 ∧ PW d M_Mod_put 0 [.ref x0, .int (((65 + ((eI σ2 b2 (ix ((4 * x2) + x3))) / 17576)).toUInt32 % 65536).toInt32)] [] σ2 (kV (fun σ3 => sh σ3 x0 = (1, 11) ∧ PW d M_Mod_put 0 [.ref x0, .int (((65 + (((eI σ2 b2 (ix ((4 * x2) + x3))) / 676) - ((eI σ2 b2 (ix ((4 * x2) + x3))) / 676) / 26 * 26)).toUInt32 % 65536).toInt32)] [] σ3 (kV (fun σ4 => sh σ4 x0 = (1, 11) ∧ PW d M_Mod_put 0 [.ref x0, .int (((65 + (((eI σ2 b2 (ix ((4 * x2) + x3))) / 26) - ((eI σ2 b2 (ix ((4 * x2) + x3))) / 26) / 26 * 26)).toUInt32 % 65536).toInt32)] [] σ4 (kV (fun σ5 => sh σ5 x0 = (1, 11) ∧ PW d M_Mod_put 0 [.ref x0, .int (((65 + ((eI σ2 b2 (ix ((4 * x2) + x3))) - (eI σ2 b2 (ix ((4 * x2) + x3))) / 26 * 26)).toUInt32 % 65536).toInt32)] [] σ5 (kV (fun σ6 => PW (d + 1) M_Mod_write 65 [.ref x0, uu, .int x2, .int (x3 + 1), uu] [] σ6 K) K)) K)) K)) K)))) K))))) : PW (d + 1) M_Mod_write 65 [.ref x0, uu, .int x2, .int x3, uu] [] σ K := by
  refine pw_iload_n dc_Mod_write_65 rfl ?_
  refine pw_aload_n dc_Mod_write_66 rfl rfl ?_
  obtain ⟨hs1, h⟩ := h
  refine pw_getR (c := 11) (k := 17) (f := 721) dc_Mod_write_67 fl_Mod_55 rfl rfl hs1 ?_
  obtain ⟨b1, hb1, h⟩ := h
  refine PW.top (v' := .ref b1) (congrArg va_rf hb1) ?_
  refine pw_iload_n dc_Mod_write_70 rfl ?_
  obtain ⟨n1, hs2, h⟩ := h
  obtain ⟨hi1, h⟩ := h
  refine pw_iald dc_Mod_write_71 hs2 hi1 ?_
  refine pw_icmp_ge (tgt := 159) dc_Mod_write_72 (by decide) (fun hc => ?_) (fun hc => ?_)
  · have h := ite_t h hc
    refine pw_aload_n dc_Mod_write_159 rfl rfl ?_
    refine pw_bipush (v := 10) dc_Mod_write_160 (by decide) ?_
    refine pw_callV (vs := [.int 10]) (st := []) (b := x0) (cn := 11) dc_Mod_write_162 cq_Mod_put (List.mem_of_getElem? (i := 1292) (by decide +kernel)) (List.mem_of_getElem? (i := 55) (by decide +kernel)) (List.mem_of_getElem? (i := 1290) (by decide +kernel)) rfl hs1 rfl rfl (by decide) (cat_cons rfl (cat_nil)) (Nat.le_of_ble_eq_true rfl) (PW.mono (kV_kN (fun σ1 h => ?_)) h)
    refine pw_iconst (v := 0) dc_Mod_write_165 (by decide) ?_
    refine pw_istore_n dc_Mod_write_166 (by decide) ?_
    exact h
  · have h := ite_f h hc
    refine pw_aload_n dc_Mod_write_75 rfl rfl ?_
    refine pw_bipush (v := 32) dc_Mod_write_76 (by decide) ?_
    refine pw_callV (vs := [.int 32]) (st := []) (b := x0) (cn := 11) dc_Mod_write_78 cq_Mod_put (List.mem_of_getElem? (i := 1292) (by decide +kernel)) (List.mem_of_getElem? (i := 55) (by decide +kernel)) (List.mem_of_getElem? (i := 1290) (by decide +kernel)) rfl hs1 rfl rfl (by decide) (cat_cons rfl (cat_nil)) (Nat.le_of_ble_eq_true rfl) (PW.mono (kV_kN (fun σ2 h => ?_)) h)
    refine pw_aload_n dc_Mod_write_81 rfl rfl ?_
    obtain ⟨hs3, h⟩ := h
    refine pw_getR (c := 11) (k := 18) (f := 722) dc_Mod_write_82 fl_Mod_58 rfl rfl hs3 ?_
    obtain ⟨b2, hb2, h⟩ := h
    refine PW.top (v' := .ref b2) (congrArg va_rf hb2) ?_
    refine pw_iconst (v := 4) dc_Mod_write_85 (by decide) ?_
    refine pw_iload_n dc_Mod_write_86 rfl ?_
    refine pw_imul dc_Mod_write_87 ?_
    refine pw_iload_n dc_Mod_write_88 rfl ?_
    refine pw_iadd dc_Mod_write_89 ?_
    obtain ⟨n2, hs4, h⟩ := h
    obtain ⟨hi2, h⟩ := h
    refine pw_iald dc_Mod_write_90 hs4 hi2 ?_
    refine pw_istore dc_Mod_write_91 (by decide) ?_
    refine pw_aload_n dc_Mod_write_93 rfl rfl ?_
    refine pw_bipush (v := 65) dc_Mod_write_94 (by decide) ?_
    refine pw_iload dc_Mod_write_96 rfl ?_
    refine pw_sipush (v := 17576) dc_Mod_write_98 (by decide) ?_
    refine pw_idiv dc_Mod_write_101 (by decide) ?_
    refine pw_iadd dc_Mod_write_102 ?_
    refine pw_i2c dc_Mod_write_103 ?_
    refine pw_callV (vs := [.int (((65 + ((eI σ2 b2 (ix ((4 * x2) + x3))) / 17576)).toUInt32 % 65536).toInt32)]) (st := []) (b := x0) (cn := 11) dc_Mod_write_104 cq_Mod_put (List.mem_of_getElem? (i := 1292) (by decide +kernel)) (List.mem_of_getElem? (i := 55) (by decide +kernel)) (List.mem_of_getElem? (i := 1290) (by decide +kernel)) rfl hs3 rfl rfl (by decide) (cat_cons rfl (cat_nil)) (Nat.le_of_ble_eq_true rfl) (PW.mono (kV_kN (fun σ3 h => ?_)) h)
    refine pw_aload_n dc_Mod_write_107 rfl rfl ?_
    refine pw_bipush (v := 65) dc_Mod_write_108 (by decide) ?_
    refine pw_iload dc_Mod_write_110 rfl ?_
    refine pw_sipush (v := 676) dc_Mod_write_112 (by decide) ?_
    refine pw_idiv dc_Mod_write_115 (by decide) ?_
    refine pw_bipush (v := 26) dc_Mod_write_116 (by decide) ?_
    refine pw_irem dc_Mod_write_118 (by decide) ?_
    refine pw_iadd dc_Mod_write_119 ?_
    refine pw_i2c dc_Mod_write_120 ?_
    obtain ⟨hs5, h⟩ := h
    refine pw_callV (vs := [.int (((65 + (((eI σ2 b2 (ix ((4 * x2) + x3))) / 676) - ((eI σ2 b2 (ix ((4 * x2) + x3))) / 676) / 26 * 26)).toUInt32 % 65536).toInt32)]) (st := []) (b := x0) (cn := 11) dc_Mod_write_121 cq_Mod_put (List.mem_of_getElem? (i := 1292) (by decide +kernel)) (List.mem_of_getElem? (i := 55) (by decide +kernel)) (List.mem_of_getElem? (i := 1290) (by decide +kernel)) rfl hs5 rfl rfl (by decide) (cat_cons rfl (cat_nil)) (Nat.le_of_ble_eq_true rfl) (PW.mono (kV_kN (fun σ4 h => ?_)) h)
    refine pw_aload_n dc_Mod_write_124 rfl rfl ?_
    refine pw_bipush (v := 65) dc_Mod_write_125 (by decide) ?_
    refine pw_iload dc_Mod_write_127 rfl ?_
    refine pw_bipush (v := 26) dc_Mod_write_129 (by decide) ?_
    refine pw_idiv dc_Mod_write_131 (by decide) ?_
    refine pw_bipush (v := 26) dc_Mod_write_132 (by decide) ?_
    refine pw_irem dc_Mod_write_134 (by decide) ?_
    refine pw_iadd dc_Mod_write_135 ?_
    refine pw_i2c dc_Mod_write_136 ?_
    obtain ⟨hs6, h⟩ := h
    refine pw_callV (vs := [.int (((65 + (((eI σ2 b2 (ix ((4 * x2) + x3))) / 26) - ((eI σ2 b2 (ix ((4 * x2) + x3))) / 26) / 26 * 26)).toUInt32 % 65536).toInt32)]) (st := []) (b := x0) (cn := 11) dc_Mod_write_137 cq_Mod_put (List.mem_of_getElem? (i := 1292) (by decide +kernel)) (List.mem_of_getElem? (i := 55) (by decide +kernel)) (List.mem_of_getElem? (i := 1290) (by decide +kernel)) rfl hs6 rfl rfl (by decide) (cat_cons rfl (cat_nil)) (Nat.le_of_ble_eq_true rfl) (PW.mono (kV_kN (fun σ5 h => ?_)) h)
    refine pw_aload_n dc_Mod_write_140 rfl rfl ?_
    refine pw_bipush (v := 65) dc_Mod_write_141 (by decide) ?_
    refine pw_iload dc_Mod_write_143 rfl ?_
    refine pw_bipush (v := 26) dc_Mod_write_145 (by decide) ?_
    refine pw_irem dc_Mod_write_147 (by decide) ?_
    refine pw_iadd dc_Mod_write_148 ?_
    refine pw_i2c dc_Mod_write_149 ?_
    obtain ⟨hs7, h⟩ := h
    refine pw_callV (vs := [.int (((65 + ((eI σ2 b2 (ix ((4 * x2) + x3))) - (eI σ2 b2 (ix ((4 * x2) + x3))) / 26 * 26)).toUInt32 % 65536).toInt32)]) (st := []) (b := x0) (cn := 11) dc_Mod_write_150 cq_Mod_put (List.mem_of_getElem? (i := 1292) (by decide +kernel)) (List.mem_of_getElem? (i := 55) (by decide +kernel)) (List.mem_of_getElem? (i := 1290) (by decide +kernel)) rfl hs7 rfl rfl (by decide) (cat_cons rfl (cat_nil)) (Nat.le_of_ble_eq_true rfl) (PW.mono (kV_kN (fun σ6 h => ?_)) h)
    refine pw_iincv (v := 1) dc_Mod_write_153 (by decide) rfl (by decide) ?_
    refine pw_goto (tgt := 65) dc_Mod_write_156 (by decide) ?_
    refine PW.drop (ls' := [.ref x0, uu, .int x2, .int (x3 + 1), uu]) ⟨Or.inl rfl, Or.inl rfl, Or.inl rfl, Or.inl rfl, Or.inr rfl, trivial⟩ ?_
    exact h
set_option maxRecDepth 20000 in
theorem e_Mod_write_167 {d : Nat} {σ : PH} {K : PO → PH → Prop} (x0 : Nat) (x2 : Int32) (x3 : Int32) (h : sh σ x0 = (1, 11) ∧ (∃ b1 : Nat, gR σ 723 x0 = some b1 ∧ (∃ n1 : Nat, sh σ b1 = (2, n1) ∧ vp_in x2 n1 ∧ (if (eI σ b1 (ix x2)) ≤ x3 then vp_in x2 n1 ∧ (if (eI σ b1 (ix x2)) ≤ 0 then PW (d + 1) M_Mod_write 229 [.ref x0, uu, uu, uu, uu] [] σ K else (∃ b2 : Nat, gR σ 755 x0 = some b2 ∧ (∃ n2 : Nat, sh σ b2 = (3, n2) ∧ vp_in ((gI σ 754 x0) - 1) n2 ∧ (if (eI σ b2 (ix ((gI σ 754 x0) - 1))) = 10 then PW (d + 1) M_Mod_write 229 [.ref x0, uu, uu, uu, uu] [] σ K else PW d M_Mod_put 0 [.ref x0, .int 10] [] σ (kV (fun σ1 => PW (d + 1) M_Mod_write 229 [.ref x0, uu, uu, uu, uu] [] σ1 K) K))))) else (∃ b3 : Nat, gR σ 724 x0 = some b3 ∧ (∃ n3 : Nat, sh σ b3 = (3, n3) ∧ vp_in ((64 * x2) + x3) n3 ∧ PW d M_Mod_put 0 [.ref x0, .int (eI σ b3 (ix ((64 * x2) + x3)))] [] σ (kV (fun σ2 => PW (d + 1) M_Mod_write 167 [.ref x0, uu, .int x2, .int (x3 + 1), uu] [] σ2 K) K))))))) : PW (d + 1) M_Mod_write 167 [.ref x0, uu, .int x2, .int x3, uu] [] σ K := by
  refine pw_iload_n dc_Mod_write_167 rfl ?_
  refine pw_aload_n dc_Mod_write_168 rfl rfl ?_
  obtain ⟨hs1, h⟩ := h
  refine pw_getR (c := 11) (k := 19) (f := 723) dc_Mod_write_169 fl_Mod_61 rfl rfl hs1 ?_
  obtain ⟨b1, hb1, h⟩ := h
  refine PW.top (v' := .ref b1) (congrArg va_rf hb1) ?_
  refine pw_iload_n dc_Mod_write_172 rfl ?_
  obtain ⟨n1, hs2, h⟩ := h
  obtain ⟨hi1, h⟩ := h
  refine pw_iald dc_Mod_write_173 hs2 hi1 ?_
  refine pw_icmp_ge (tgt := 198) dc_Mod_write_174 (by decide) (fun hc => ?_) (fun hc => ?_)
  · have h := ite_t h hc
    refine pw_aload_n dc_Mod_write_198 rfl rfl ?_
    refine pw_getR (c := 11) (k := 19) (f := 723) dc_Mod_write_199 fl_Mod_61 rfl rfl hs1 ?_
    refine PW.top (v' := .ref b1) (congrArg va_rf hb1) ?_
    refine pw_iload_n dc_Mod_write_202 rfl ?_
    obtain ⟨hi2, h⟩ := h
    refine pw_iald dc_Mod_write_203 hs2 hi2 ?_
    refine pw_if_le (tgt := 229) dc_Mod_write_204 (by decide) (fun hc => ?_) (fun hc => ?_)
    · have h := ite_t h hc
      refine PW.drop (ls' := [.ref x0, uu, uu, uu, uu]) ⟨Or.inl rfl, Or.inl rfl, Or.inr rfl, Or.inr rfl, Or.inl rfl, trivial⟩ ?_
      exact h
    · have h := ite_f h hc
      refine pw_aload_n dc_Mod_write_207 rfl rfl ?_
      refine pw_getR (c := 11) (k := 51) (f := 755) dc_Mod_write_208 fl_Mod_127 rfl rfl hs1 ?_
      obtain ⟨b2, hb2, h⟩ := h
      refine PW.top (v' := .ref b2) (congrArg va_rf hb2) ?_
      refine pw_aload_n dc_Mod_write_211 rfl rfl ?_
      refine pw_getI (c := 11) (k := 50) (f := 754) dc_Mod_write_212 fl_Mod_291 rfl rfl hs1 ?_
      refine pw_iconst (v := 1) dc_Mod_write_215 (by decide) ?_
      refine pw_isub dc_Mod_write_216 ?_
      obtain ⟨n2, hs3, h⟩ := h
      obtain ⟨hi3, h⟩ := h
      refine pw_cald dc_Mod_write_217 hs3 hi3 ?_
      refine pw_bipush (v := 10) dc_Mod_write_218 (by decide) ?_
      refine pw_icmp_eq (tgt := 229) dc_Mod_write_220 (by decide) (fun hc => ?_) (fun hc => ?_)
      · have h := ite_t h hc
        refine PW.drop (ls' := [.ref x0, uu, uu, uu, uu]) ⟨Or.inl rfl, Or.inl rfl, Or.inr rfl, Or.inr rfl, Or.inl rfl, trivial⟩ ?_
        exact h
      · have h := ite_f h hc
        refine pw_aload_n dc_Mod_write_223 rfl rfl ?_
        refine pw_bipush (v := 10) dc_Mod_write_224 (by decide) ?_
        refine pw_callV (vs := [.int 10]) (st := []) (b := x0) (cn := 11) dc_Mod_write_226 cq_Mod_put (List.mem_of_getElem? (i := 1292) (by decide +kernel)) (List.mem_of_getElem? (i := 55) (by decide +kernel)) (List.mem_of_getElem? (i := 1290) (by decide +kernel)) rfl hs1 rfl rfl (by decide) (cat_cons rfl (cat_nil)) (Nat.le_of_ble_eq_true rfl) (PW.mono (kV_kN (fun σ1 h => ?_)) h)
        refine PW.drop (ls' := [.ref x0, uu, uu, uu, uu]) ⟨Or.inl rfl, Or.inl rfl, Or.inr rfl, Or.inr rfl, Or.inl rfl, trivial⟩ ?_
        exact h
  · have h := ite_f h hc
    refine pw_aload_n dc_Mod_write_177 rfl rfl ?_
    refine pw_aload_n dc_Mod_write_178 rfl rfl ?_
    refine pw_getR (c := 11) (k := 20) (f := 724) dc_Mod_write_179 fl_Mod_64 rfl rfl hs1 ?_
    obtain ⟨b3, hb3, h⟩ := h
    refine PW.top (v' := .ref b3) (congrArg va_rf hb3) ?_
    refine pw_bipush (v := 64) dc_Mod_write_182 (by decide) ?_
    refine pw_iload_n dc_Mod_write_184 rfl ?_
    refine pw_imul dc_Mod_write_185 ?_
    refine pw_iload_n dc_Mod_write_186 rfl ?_
    refine pw_iadd dc_Mod_write_187 ?_
    obtain ⟨n3, hs4, h⟩ := h
    obtain ⟨hi4, h⟩ := h
    refine pw_cald dc_Mod_write_188 hs4 hi4 ?_
    refine pw_callV (vs := [.int (eI σ b3 (ix ((64 * x2) + x3)))]) (st := []) (b := x0) (cn := 11) dc_Mod_write_189 cq_Mod_put (List.mem_of_getElem? (i := 1292) (by decide +kernel)) (List.mem_of_getElem? (i := 55) (by decide +kernel)) (List.mem_of_getElem? (i := 1290) (by decide +kernel)) rfl hs1 rfl rfl (by decide) (cat_cons rfl (cat_nil)) (Nat.le_of_ble_eq_true rfl) (PW.mono (kV_kN (fun σ2 h => ?_)) h)
    refine pw_iincv (v := 1) dc_Mod_write_192 (by decide) rfl (by decide) ?_
    refine pw_goto (tgt := 167) dc_Mod_write_195 (by decide) ?_
    exact h
set_option maxRecDepth 20000 in
theorem e_Mod_write_229 {d : Nat} {σ : PH} {K : PO → PH → Prop} (x0 : Nat) (h : PW (d + 1) M_Mod_write 231 [.ref x0, uu, uu, .int 0, uu] [] σ K) : PW (d + 1) M_Mod_write 229 [.ref x0, uu, uu, uu, uu] [] σ K := by
  refine pw_iconst (v := 0) dc_Mod_write_229 (by decide) ?_
  refine pw_istore_n dc_Mod_write_230 (by decide) ?_
  exact h
set_option maxRecDepth 20000 in
theorem e_Mod_write_231 {d : Nat} {σ : PH} {K : PO → PH → Prop} (x0 : Nat) (x3 : Int32) (h : (if 4 ≤ x3 then sh σ x0 = (1, 11) ∧ PW d M_Mod_put 0 [.ref x0, .int 10] [] σ (kV (fun σ1 => K (.inl none) σ1) K) else sh σ x0 = (1, 11) ∧ PW d M_Mod_put 0 [.ref x0, .int 78] [] σ (kV (fun σ2 => PW (d + 1) M_Mod_write 231 [.ref x0, uu, uu, .int (x3 + 1), uu] [] σ2 K) K))) : PW (d + 1) M_Mod_write 231 [.ref x0, uu, uu, .int x3, uu] [] σ K := by
  refine pw_iload_n dc_Mod_write_231 rfl ?_
  refine pw_iconst (v := 4) dc_Mod_write_232 (by decide) ?_
  refine pw_icmp_ge (tgt := 248) dc_Mod_write_233 (by decide) (fun hc => ?_) (fun hc => ?_)
  · have h := ite_t h hc
    refine pw_aload_n dc_Mod_write_248 rfl rfl ?_
    refine pw_bipush (v := 10) dc_Mod_write_249 (by decide) ?_
    obtain ⟨hs1, h⟩ := h
    refine pw_callV (vs := [.int 10]) (st := []) (b := x0) (cn := 11) dc_Mod_write_251 cq_Mod_put (List.mem_of_getElem? (i := 1292) (by decide +kernel)) (List.mem_of_getElem? (i := 55) (by decide +kernel)) (List.mem_of_getElem? (i := 1290) (by decide +kernel)) rfl hs1 rfl rfl (by decide) (cat_cons rfl (cat_nil)) (Nat.le_of_ble_eq_true rfl) (PW.mono (kV_kN (fun σ1 h => ?_)) h)
    exact pw_vret dc_Mod_write_254 rfl h
  · have h := ite_f h hc
    refine pw_aload_n dc_Mod_write_236 rfl rfl ?_
    refine pw_bipush (v := 78) dc_Mod_write_237 (by decide) ?_
    obtain ⟨hs2, h⟩ := h
    refine pw_callV (vs := [.int 78]) (st := []) (b := x0) (cn := 11) dc_Mod_write_239 cq_Mod_put (List.mem_of_getElem? (i := 1292) (by decide +kernel)) (List.mem_of_getElem? (i := 55) (by decide +kernel)) (List.mem_of_getElem? (i := 1290) (by decide +kernel)) rfl hs2 rfl rfl (by decide) (cat_cons rfl (cat_nil)) (Nat.le_of_ble_eq_true rfl) (PW.mono (kV_kN (fun σ2 h => ?_)) h)
    refine pw_iincv (v := 1) dc_Mod_write_242 (by decide) rfl (by decide) ?_
    refine pw_goto (tgt := 231) dc_Mod_write_245 (by decide) ?_
    exact h
theorem dc_Mod_addSign_0 : decode M_Mod_addSign.2.1 0 = .ok (.aload_n 0, 1) := by decide +kernel
theorem dc_Mod_addSign_1 : decode M_Mod_addSign.2.1 1 = .ok (.getfield 130, 3) := by decide +kernel
theorem dc_Mod_addSign_4 : decode M_Mod_addSign.2.1 4 = .ok (.aload_n 0, 1) := by decide +kernel
theorem dc_Mod_addSign_5 : decode M_Mod_addSign.2.1 5 = .ok (.getfield 301, 3) := by decide +kernel
theorem dc_Mod_addSign_8 : decode M_Mod_addSign.2.1 8 = .ok (.iload_n 1, 1) := by decide +kernel
theorem dc_Mod_addSign_9 : decode M_Mod_addSign.2.1 9 = .ok (.iastore, 1) := by decide +kernel
theorem dc_Mod_addSign_10 : decode M_Mod_addSign.2.1 10 = .ok (.aload_n 0, 1) := by decide +kernel
theorem dc_Mod_addSign_11 : decode M_Mod_addSign.2.1 11 = .ok (.dup, 1) := by decide +kernel
theorem dc_Mod_addSign_12 : decode M_Mod_addSign.2.1 12 = .ok (.getfield 301, 3) := by decide +kernel
theorem dc_Mod_addSign_15 : decode M_Mod_addSign.2.1 15 = .ok (.iconst 1, 1) := by decide +kernel
theorem dc_Mod_addSign_16 : decode M_Mod_addSign.2.1 16 = .ok (.iadd, 1) := by decide +kernel
theorem dc_Mod_addSign_17 : decode M_Mod_addSign.2.1 17 = .ok (.putfield 301, 3) := by decide +kernel
theorem dc_Mod_addSign_20 : decode M_Mod_addSign.2.1 20 = .ok (.return_, 1) := by decide +kernel
set_option maxRecDepth 20000 in
theorem e_Mod_addSign_0 {d : Nat} {σ : PH} {K : PO → PH → Prop} (x0 : Nat) (x1 : Int32) (h : sh σ x0 = (1, 11) ∧ (∃ b1 : Nat, gR σ 757 x0 = some b1 ∧ (∃ n1 : Nat, sh σ b1 = (2, n1) ∧ vp_in (gI σ 756 x0) n1 ∧ (∀ σ1 : PH, σ1 = uI σ b1 (ix (gI σ 756 x0)) x1 → sh σ1 x0 = (1, 11) ∧ (∀ σ2 : PH, σ2 = pI σ1 756 x0 ((gI σ1 756 x0) + 1) → K (.inl none) σ2))))) : PW d M_Mod_addSign 0 [.ref x0, .int x1] [] σ K := by
  refine pw_aload_n dc_Mod_addSign_0 rfl rfl ?_
  obtain ⟨hs1, h⟩ := h
  refine pw_getR (c := 11) (k := 53) (f := 757) dc_Mod_addSign_1 fl_Mod_130 rfl rfl hs1 ?_
  obtain ⟨b1, hb1, h⟩ := h
  refine PW.top (v' := .ref b1) (congrArg va_rf hb1) ?_
  refine pw_aload_n dc_Mod_addSign_4 rfl rfl ?_
  refine pw_getI (c := 11) (k := 52) (f := 756) dc_Mod_addSign_5 fl_Mod_301 rfl rfl hs1 ?_
  refine pw_iload_n dc_Mod_addSign_8 rfl ?_
  obtain ⟨n1, hs2, h⟩ := h
  obtain ⟨hi1, h⟩ := h
  have h := h _ rfl
  refine pw_iast dc_Mod_addSign_9 hs2 hi1 ?_
  refine pw_aload_n dc_Mod_addSign_10 rfl rfl ?_
  refine pw_dup dc_Mod_addSign_11 rfl ?_
  obtain ⟨hs3, h⟩ := h
  refine pw_getI (c := 11) (k := 52) (f := 756) dc_Mod_addSign_12 fl_Mod_301 rfl rfl hs3 ?_
  refine pw_iconst (v := 1) dc_Mod_addSign_15 (by decide) ?_
  refine pw_iadd dc_Mod_addSign_16 ?_
  have h := h _ rfl
  refine pw_putI (c := 11) (k := 52) (f := 756) dc_Mod_addSign_17 fl_Mod_301 (Or.inl rfl) rfl rfl hs3 ?_
  exact pw_vret dc_Mod_addSign_20 rfl h
