theorem dc_Mod_toSigns_0 : decode M_Mod_toSigns.2.1 0 = .ok (.aload_n 0, 1) := by decide +kernel
theorem dc_Mod_toSigns_1 : decode M_Mod_toSigns.2.1 1 = .ok (.iconst 0, 1) := by decide +kernel
theorem dc_Mod_toSigns_2 : decode M_Mod_toSigns.2.1 2 = .ok (.putfield 301, 3) := by decide +kernel
theorem dc_Mod_toSigns_5 : decode M_Mod_toSigns.2.1 5 = .ok (.iconst 0, 1) := by decide +kernel
theorem dc_Mod_toSigns_6 : decode M_Mod_toSigns.2.1 6 = .ok (.istore_n 1, 1) := by decide +kernel
theorem dc_Mod_toSigns_7 : decode M_Mod_toSigns.2.1 7 = .ok (.iconst 0, 1) := by decide +kernel
theorem dc_Mod_toSigns_8 : decode M_Mod_toSigns.2.1 8 = .ok (.istore_n 2, 1) := by decide +kernel
theorem dc_Mod_toSigns_9 : decode M_Mod_toSigns.2.1 9 = .ok (.iload_n 2, 1) := by decide +kernel
theorem dc_Mod_toSigns_10 : decode M_Mod_toSigns.2.1 10 = .ok (.aload_n 0, 1) := by decide +kernel
theorem dc_Mod_toSigns_11 : decode M_Mod_toSigns.2.1 11 = .ok (.getfield 291, 3) := by decide +kernel
theorem dc_Mod_toSigns_14 : decode M_Mod_toSigns.2.1 14 = .ok (.if_icmp .ge 107, 3) := by decide +kernel
theorem dc_Mod_toSigns_17 : decode M_Mod_toSigns.2.1 17 = .ok (.aload_n 0, 1) := by decide +kernel
theorem dc_Mod_toSigns_18 : decode M_Mod_toSigns.2.1 18 = .ok (.getfield 127, 3) := by decide +kernel
theorem dc_Mod_toSigns_21 : decode M_Mod_toSigns.2.1 21 = .ok (.iload_n 2, 1) := by decide +kernel
theorem dc_Mod_toSigns_22 : decode M_Mod_toSigns.2.1 22 = .ok (.caload, 1) := by decide +kernel
theorem dc_Mod_toSigns_23 : decode M_Mod_toSigns.2.1 23 = .ok (.istore_n 3, 1) := by decide +kernel
theorem dc_Mod_toSigns_24 : decode M_Mod_toSigns.2.1 24 = .ok (.iload_n 3, 1) := by decide +kernel
theorem dc_Mod_toSigns_25 : decode M_Mod_toSigns.2.1 25 = .ok (.bipush 32, 2) := by decide +kernel
theorem dc_Mod_toSigns_27 : decode M_Mod_toSigns.2.1 27 = .ok (.if_icmp .eq 9, 3) := by decide +kernel
theorem dc_Mod_toSigns_30 : decode M_Mod_toSigns.2.1 30 = .ok (.iload_n 3, 1) := by decide +kernel
theorem dc_Mod_toSigns_31 : decode M_Mod_toSigns.2.1 31 = .ok (.bipush 10, 2) := by decide +kernel
theorem dc_Mod_toSigns_33 : decode M_Mod_toSigns.2.1 33 = .ok (.if_icmp .ne 23, 3) := by decide +kernel
theorem dc_Mod_toSigns_36 : decode M_Mod_toSigns.2.1 36 = .ok (.aload_n 0, 1) := by decide +kernel
theorem dc_Mod_toSigns_37 : decode M_Mod_toSigns.2.1 37 = .ok (.iload_n 3, 1) := by decide +kernel
theorem dc_Mod_toSigns_38 : decode M_Mod_toSigns.2.1 38 = .ok (.bipush 32, 2) := by decide +kernel
theorem dc_Mod_toSigns_40 : decode M_Mod_toSigns.2.1 40 = .ok (.if_icmp .ne 8, 3) := by decide +kernel
theorem dc_Mod_toSigns_43 : decode M_Mod_toSigns.2.1 43 = .ok (.bipush 26, 2) := by decide +kernel
theorem dc_Mod_toSigns_45 : decode M_Mod_toSigns.2.1 45 = .ok (.goto 5, 3) := by decide +kernel
theorem dc_Mod_toSigns_48 : decode M_Mod_toSigns.2.1 48 = .ok (.bipush 27, 2) := by decide +kernel
theorem dc_Mod_toSigns_50 : decode M_Mod_toSigns.2.1 50 = .ok (.invokevirtual 304, 3) := by decide +kernel
theorem dc_Mod_toSigns_53 : decode M_Mod_toSigns.2.1 53 = .ok (.goto 62, 3) := by decide +kernel
theorem dc_Mod_toSigns_56 : decode M_Mod_toSigns.2.1 56 = .ok (.iload_n 3, 1) := by decide +kernel
theorem dc_Mod_toSigns_57 : decode M_Mod_toSigns.2.1 57 = .ok (.invokestatic 148, 3) := by decide +kernel
theorem dc_Mod_toSigns_60 : decode M_Mod_toSigns.2.1 60 = .ok (.ifCond .ne 7, 3) := by decide +kernel
theorem dc_Mod_toSigns_63 : decode M_Mod_toSigns.2.1 63 = .ok (.iconst 1, 1) := by decide +kernel
theorem dc_Mod_toSigns_64 : decode M_Mod_toSigns.2.1 64 = .ok (.goto 4, 3) := by decide +kernel
theorem dc_Mod_toSigns_67 : decode M_Mod_toSigns.2.1 67 = .ok (.iconst 0, 1) := by decide +kernel
theorem dc_Mod_toSigns_68 : decode M_Mod_toSigns.2.1 68 = .ok (.istore 4, 2) := by decide +kernel
theorem dc_Mod_toSigns_70 : decode M_Mod_toSigns.2.1 70 = .ok (.iload 4, 2) := by decide +kernel
theorem dc_Mod_toSigns_72 : decode M_Mod_toSigns.2.1 72 = .ok (.iload_n 1, 1) := by decide +kernel
theorem dc_Mod_toSigns_73 : decode M_Mod_toSigns.2.1 73 = .ok (.if_icmp .eq 22, 3) := by decide +kernel
theorem dc_Mod_toSigns_76 : decode M_Mod_toSigns.2.1 76 = .ok (.aload_n 0, 1) := by decide +kernel
theorem dc_Mod_toSigns_77 : decode M_Mod_toSigns.2.1 77 = .ok (.iload 4, 2) := by decide +kernel
theorem dc_Mod_toSigns_79 : decode M_Mod_toSigns.2.1 79 = .ok (.ifCond .eq 8, 3) := by decide +kernel
theorem dc_Mod_toSigns_82 : decode M_Mod_toSigns.2.1 82 = .ok (.bipush 29, 2) := by decide +kernel
theorem dc_Mod_toSigns_84 : decode M_Mod_toSigns.2.1 84 = .ok (.goto 5, 3) := by decide +kernel
theorem dc_Mod_toSigns_87 : decode M_Mod_toSigns.2.1 87 = .ok (.bipush 28, 2) := by decide +kernel
theorem dc_Mod_toSigns_89 : decode M_Mod_toSigns.2.1 89 = .ok (.invokevirtual 304, 3) := by decide +kernel
theorem dc_Mod_toSigns_92 : decode M_Mod_toSigns.2.1 92 = .ok (.iload 4, 2) := by decide +kernel
theorem dc_Mod_toSigns_94 : decode M_Mod_toSigns.2.1 94 = .ok (.istore_n 1, 1) := by decide +kernel
theorem dc_Mod_toSigns_95 : decode M_Mod_toSigns.2.1 95 = .ok (.aload_n 0, 1) := by decide +kernel
theorem dc_Mod_toSigns_96 : decode M_Mod_toSigns.2.1 96 = .ok (.iload 4, 2) := by decide +kernel
theorem dc_Mod_toSigns_98 : decode M_Mod_toSigns.2.1 98 = .ok (.ifCond .eq 10, 3) := by decide +kernel
theorem dc_Mod_toSigns_101 : decode M_Mod_toSigns.2.1 101 = .ok (.iload_n 3, 1) := by decide +kernel
theorem dc_Mod_toSigns_102 : decode M_Mod_toSigns.2.1 102 = .ok (.invokestatic 152, 3) := by decide +kernel
theorem dc_Mod_toSigns_105 : decode M_Mod_toSigns.2.1 105 = .ok (.goto 7, 3) := by decide +kernel
theorem dc_Mod_toSigns_108 : decode M_Mod_toSigns.2.1 108 = .ok (.iload_n 3, 1) := by decide +kernel
theorem dc_Mod_toSigns_109 : decode M_Mod_toSigns.2.1 109 = .ok (.bipush 65, 2) := by decide +kernel
theorem dc_Mod_toSigns_111 : decode M_Mod_toSigns.2.1 111 = .ok (.isub, 1) := by decide +kernel
theorem dc_Mod_toSigns_112 : decode M_Mod_toSigns.2.1 112 = .ok (.invokevirtual 304, 3) := by decide +kernel
theorem dc_Mod_toSigns_115 : decode M_Mod_toSigns.2.1 115 = .ok (.iinc 2 1, 3) := by decide +kernel
theorem dc_Mod_toSigns_118 : decode M_Mod_toSigns.2.1 118 = .ok (.goto (-109), 3) := by decide +kernel
theorem dc_Mod_toSigns_121 : decode M_Mod_toSigns.2.1 121 = .ok (.return_, 1) := by decide +kernel
set_option maxRecDepth 20000 in
theorem e_Mod_toSigns_0 {d : Nat} {σ : PH} {K : PO → PH → Prop} (x0 : Nat) (h : sh σ x0 = (1, 11) ∧ (∀ σ1 : PH, σ1 = pI σ 756 x0 0 → PW (d + 1) M_Mod_toSigns 9 [.ref x0, .int 0, .int 0, uu, uu] [] σ1 K)) : PW (d + 1) M_Mod_toSigns 0 [.ref x0, uu, uu, uu, uu] [] σ K := by
  refine pw_aload_n dc_Mod_toSigns_0 rfl rfl ?_
  refine pw_iconst (v := 0) dc_Mod_toSigns_1 (by decide) ?_
  obtain ⟨hs1, h⟩ := h
  have h := h _ rfl
  refine pw_putI (c := 11) (k := 52) (f := 756) dc_Mod_toSigns_2 fl_Mod_301 (Or.inl rfl) rfl rfl hs1 ?_
  refine pw_iconst (v := 0) dc_Mod_toSigns_5 (by decide) ?_
  refine pw_istore_n dc_Mod_toSigns_6 (by decide) ?_
  refine pw_iconst (v := 0) dc_Mod_toSigns_7 (by decide) ?_
  refine pw_istore_n dc_Mod_toSigns_8 (by decide) ?_
  exact h
set_option maxRecDepth 20000 in
theorem e_Mod_toSigns_9 {d : Nat} {σ : PH} {K : PO → PH → Prop} (x0 : Nat) (x1 : Int32) (x2 : Int32) (h : sh σ x0 = (1, 11) ∧ (if (gI σ 754 x0) ≤ x2 then K (.inl none) σ else (∃ b1 : Nat, gR σ 755 x0 = some b1 ∧ (∃ n1 : Nat, sh σ b1 = (3, n1) ∧ vp_in x2 n1 ∧ (if (eI σ b1 (ix x2)) = 32 then PW (d + 1) M_Mod_toSigns 36 [.ref x0, .int x1, .int x2, .int (eI σ b1 (ix x2)), uu] [] σ K else (if (eI σ b1 (ix x2)) = 10 then PW (d + 1) M_Mod_toSigns 36 [.ref x0, .int x1, .int x2, .int (eI σ b1 (ix x2)), uu] [] σ K else PW d M_Mod_isLetter 0 [.int (eI σ b1 (ix x2))] [] σ (kI (fun r1 σ1 => (if r1 = 0 then PW (d + 1) M_Mod_toSigns 68 [.ref x0, .int x1, .int x2, .int (eI σ b1 (ix x2)), uu] [.int 1] σ1 K else PW (d + 1) M_Mod_toSigns 68 [.ref x0, .int x1, .int x2, .int (eI σ b1 (ix x2)), uu] [.int 0] σ1 K)) K))))))) : PW (d + 1) M_Mod_toSigns 9 [.ref x0, .int x1, .int x2, uu, uu] [] σ K := by
  refine pw_iload_n dc_Mod_toSigns_9 rfl ?_
  refine pw_aload_n dc_Mod_toSigns_10 rfl rfl ?_
  obtain ⟨hs1, h⟩ := h
  refine pw_getI (c := 11) (k := 50) (f := 754) dc_Mod_toSigns_11 fl_Mod_291 rfl rfl hs1 ?_
  refine pw_icmp_ge (tgt := 121) dc_Mod_toSigns_14 (by decide) (fun hc => ?_) (fun hc => ?_)
  · have h := ite_t h hc
    exact pw_vret dc_Mod_toSigns_121 rfl h
  · have h := ite_f h hc
    refine pw_aload_n dc_Mod_toSigns_17 rfl rfl ?_
    refine pw_getR (c := 11) (k := 51) (f := 755) dc_Mod_toSigns_18 fl_Mod_127 rfl rfl hs1 ?_
    obtain ⟨b1, hb1, h⟩ := h
    refine PW.top (v' := .ref b1) (congrArg va_rf hb1) ?_
    refine pw_iload_n dc_Mod_toSigns_21 rfl ?_
    obtain ⟨n1, hs2, h⟩ := h
    obtain ⟨hi1, h⟩ := h
    refine pw_cald dc_Mod_toSigns_22 hs2 hi1 ?_
    refine pw_istore_n dc_Mod_toSigns_23 (by decide) ?_
    refine pw_iload_n dc_Mod_toSigns_24 rfl ?_
    refine pw_bipush (v := 32) dc_Mod_toSigns_25 (by decide) ?_
    refine pw_icmp_eq (tgt := 36) dc_Mod_toSigns_27 (by decide) (fun hc => ?_) (fun hc => ?_)
    · have h := ite_t h hc
      exact h
    · have h := ite_f h hc
      refine pw_iload_n dc_Mod_toSigns_30 rfl ?_
      refine pw_bipush (v := 10) dc_Mod_toSigns_31 (by decide) ?_
      refine pw_icmp_ne (tgt := 56) dc_Mod_toSigns_33 (by decide) (fun hc => ?_) (fun hc => ?_)
      · have h := ite_f h hc
        refine pw_iload_n dc_Mod_toSigns_56 rfl ?_
        refine pw_callS (vs := [.int (eI σ b1 (ix x2))]) (st := []) dc_Mod_toSigns_57 cq_Mod_isLetter (List.mem_of_getElem? (i := 1185) (by decide +kernel)) (List.mem_of_getElem? (i := 1184) (by decide +kernel)) rfl rfl (cat_cons rfl (cat_nil)) (Nat.le_of_ble_eq_true rfl) (PW.mono (kI_kN (fun r1 σ1 h => ?_)) h)
        refine pw_if_ne (tgt := 67) dc_Mod_toSigns_60 (by decide) (fun hc => ?_) (fun hc => ?_)
        · have h := ite_f h hc
          refine pw_iconst (v := 0) dc_Mod_toSigns_67 (by decide) ?_
          exact h
        · have h := ite_t h hc
          refine pw_iconst (v := 1) dc_Mod_toSigns_63 (by decide) ?_
          refine pw_goto (tgt := 68) dc_Mod_toSigns_64 (by decide) ?_
          exact h
      · have h := ite_t h hc
        exact h
set_option maxRecDepth 20000 in
theorem e_Mod_toSigns_36 {d : Nat} {σ : PH} {K : PO → PH → Prop} (x0 : Nat) (x1 : Int32) (x2 : Int32) (x3 : Int32) (h : (if x3 = 32 then PW (d + 1) M_Mod_toSigns 50 [.ref x0, .int x1, .int x2, uu, uu] [.int 26, .ref x0] σ K else PW (d + 1) M_Mod_toSigns 50 [.ref x0, .int x1, .int x2, uu, uu] [.int 27, .ref x0] σ K)) : PW (d + 1) M_Mod_toSigns 36 [.ref x0, .int x1, .int x2, .int x3, uu] [] σ K := by
  refine pw_aload_n dc_Mod_toSigns_36 rfl rfl ?_
  refine pw_iload_n dc_Mod_toSigns_37 rfl ?_
  refine pw_bipush (v := 32) dc_Mod_toSigns_38 (by decide) ?_
  refine pw_icmp_ne (tgt := 48) dc_Mod_toSigns_40 (by decide) (fun hc => ?_) (fun hc => ?_)
  · have h := ite_f h hc
    refine pw_bipush (v := 27) dc_Mod_toSigns_48 (by decide) ?_
    refine PW.drop (ls' := [.ref x0, .int x1, .int x2, uu, uu]) ⟨Or.inl rfl, Or.inl rfl, Or.inl rfl, Or.inr rfl, Or.inl rfl, trivial⟩ ?_
    exact h
  · have h := ite_t h hc
    refine pw_bipush (v := 26) dc_Mod_toSigns_43 (by decide) ?_
    refine pw_goto (tgt := 50) dc_Mod_toSigns_45 (by decide) ?_
    refine PW.drop (ls' := [.ref x0, .int x1, .int x2, uu, uu]) ⟨Or.inl rfl, Or.inl rfl, Or.inl rfl, Or.inr rfl, Or.inl rfl, trivial⟩ ?_
    exact h
set_option maxRecDepth 20000 in
theorem e_Mod_toSigns_50 {d : Nat} {σ : PH} {K : PO → PH → Prop} (x0 : Nat) (x1 : Int32) (x2 : Int32) (y0 : Int32) (y1 : Nat) (h : sh σ y1 = (1, 11) ∧ PW d M_Mod_addSign 0 [.ref y1, .int y0] [] σ (kV (fun σ1 => PW (d + 1) M_Mod_toSigns 115 [.ref x0, .int x1, .int x2, uu, uu] [] σ1 K) K)) : PW (d + 1) M_Mod_toSigns 50 [.ref x0, .int x1, .int x2, uu, uu] [.int y0, .ref y1] σ K := by
  obtain ⟨hs1, h⟩ := h
  refine pw_callV (vs := [.int y0]) (st := []) (b := y1) (cn := 11) dc_Mod_toSigns_50 cq_Mod_addSign (List.mem_of_getElem? (i := 1300) (by decide +kernel)) (List.mem_of_getElem? (i := 57) (by decide +kernel)) (List.mem_of_getElem? (i := 1298) (by decide +kernel)) rfl hs1 rfl rfl (by decide) (cat_cons rfl (cat_nil)) (Nat.le_of_ble_eq_true rfl) (PW.mono (kV_kN (fun σ1 h => ?_)) h)
  refine pw_goto (tgt := 115) dc_Mod_toSigns_53 (by decide) ?_
  exact h
set_option maxRecDepth 20000 in
theorem e_Mod_toSigns_68 {d : Nat} {σ : PH} {K : PO → PH → Prop} (x0 : Nat) (x1 : Int32) (x2 : Int32) (x3 : Int32) (y0 : Int32) (h : (if y0 = x1 then PW (d + 1) M_Mod_toSigns 95 [.ref x0, .int x1, .int x2, .int x3, .int y0] [] σ K else (if y0 = 0 then PW (d + 1) M_Mod_toSigns 89 [.ref x0, uu, .int x2, .int x3, .int y0] [.int 28, .ref x0] σ K else PW (d + 1) M_Mod_toSigns 89 [.ref x0, uu, .int x2, .int x3, .int y0] [.int 29, .ref x0] σ K))) : PW (d + 1) M_Mod_toSigns 68 [.ref x0, .int x1, .int x2, .int x3, uu] [.int y0] σ K := by
  refine pw_istore dc_Mod_toSigns_68 (by decide) ?_
  refine pw_iload dc_Mod_toSigns_70 rfl ?_
  refine pw_iload_n dc_Mod_toSigns_72 rfl ?_
  refine pw_icmp_eq (tgt := 95) dc_Mod_toSigns_73 (by decide) (fun hc => ?_) (fun hc => ?_)
  · have h := ite_t h hc
    exact h
  · have h := ite_f h hc
    refine pw_aload_n dc_Mod_toSigns_76 rfl rfl ?_
    refine pw_iload dc_Mod_toSigns_77 rfl ?_
    refine pw_if_eq (tgt := 87) dc_Mod_toSigns_79 (by decide) (fun hc => ?_) (fun hc => ?_)
    · have h := ite_t h hc
      refine pw_bipush (v := 28) dc_Mod_toSigns_87 (by decide) ?_
      refine PW.drop (ls' := [.ref x0, uu, .int x2, .int x3, .int y0]) ⟨Or.inl rfl, Or.inr rfl, Or.inl rfl, Or.inl rfl, Or.inl rfl, trivial⟩ ?_
      exact h
    · have h := ite_f h hc
      refine pw_bipush (v := 29) dc_Mod_toSigns_82 (by decide) ?_
      refine pw_goto (tgt := 89) dc_Mod_toSigns_84 (by decide) ?_
      refine PW.drop (ls' := [.ref x0, uu, .int x2, .int x3, .int y0]) ⟨Or.inl rfl, Or.inr rfl, Or.inl rfl, Or.inl rfl, Or.inl rfl, trivial⟩ ?_
      exact h
set_option maxRecDepth 20000 in
theorem e_Mod_toSigns_89 {d : Nat} {σ : PH} {K : PO → PH → Prop} (x0 : Nat) (x2 : Int32) (x3 : Int32) (x4 : Int32) (y0 : Int32) (y1 : Nat) (h : sh σ y1 = (1, 11) ∧ PW d M_Mod_addSign 0 [.ref y1, .int y0] [] σ (kV (fun σ1 => PW (d + 1) M_Mod_toSigns 95 [.ref x0, .int x4, .int x2, .int x3, .int x4] [] σ1 K) K)) : PW (d + 1) M_Mod_toSigns 89 [.ref x0, uu, .int x2, .int x3, .int x4] [.int y0, .ref y1] σ K := by
  obtain ⟨hs1, h⟩ := h
  refine pw_callV (vs := [.int y0]) (st := []) (b := y1) (cn := 11) dc_Mod_toSigns_89 cq_Mod_addSign (List.mem_of_getElem? (i := 1300) (by decide +kernel)) (List.mem_of_getElem? (i := 57) (by decide +kernel)) (List.mem_of_getElem? (i := 1298) (by decide +kernel)) rfl hs1 rfl rfl (by decide) (cat_cons rfl (cat_nil)) (Nat.le_of_ble_eq_true rfl) (PW.mono (kV_kN (fun σ1 h => ?_)) h)
  refine pw_iload dc_Mod_toSigns_92 rfl ?_
  refine pw_istore_n dc_Mod_toSigns_94 (by decide) ?_
  exact h
set_option maxRecDepth 20000 in
theorem e_Mod_toSigns_95 {d : Nat} {σ : PH} {K : PO → PH → Prop} (x0 : Nat) (x1 : Int32) (x2 : Int32) (x3 : Int32) (x4 : Int32) (h : (if x4 = 0 then PW (d + 1) M_Mod_toSigns 112 [.ref x0, .int x1, .int x2, uu, uu] [.int (x3 - 65), .ref x0] σ K else PW d M_Mod_figureOf 0 [.int x3, uu, uu] [] σ (kI (fun r1 σ1 => PW (d + 1) M_Mod_toSigns 112 [.ref x0, .int x1, .int x2, uu, uu] [.int r1, .ref x0] σ1 K) K))) : PW (d + 1) M_Mod_toSigns 95 [.ref x0, .int x1, .int x2, .int x3, .int x4] [] σ K := by
  refine pw_aload_n dc_Mod_toSigns_95 rfl rfl ?_
  refine pw_iload dc_Mod_toSigns_96 rfl ?_
  refine pw_if_eq (tgt := 108) dc_Mod_toSigns_98 (by decide) (fun hc => ?_) (fun hc => ?_)
  · have h := ite_t h hc
    refine pw_iload_n dc_Mod_toSigns_108 rfl ?_
    refine pw_bipush (v := 65) dc_Mod_toSigns_109 (by decide) ?_
    refine pw_isub dc_Mod_toSigns_111 ?_
    refine PW.drop (ls' := [.ref x0, .int x1, .int x2, uu, uu]) ⟨Or.inl rfl, Or.inl rfl, Or.inl rfl, Or.inr rfl, Or.inr rfl, trivial⟩ ?_
    exact h
  · have h := ite_f h hc
    refine pw_iload_n dc_Mod_toSigns_101 rfl ?_
    refine pw_callS (vs := [.int x3]) (st := [.ref x0]) dc_Mod_toSigns_102 cq_Mod_figureOf (List.mem_of_getElem? (i := 1303) (by decide +kernel)) (List.mem_of_getElem? (i := 1302) (by decide +kernel)) rfl rfl (cat_cons rfl (cat_nil)) (Nat.le_of_ble_eq_true rfl) (PW.mono (kI_kN (fun r1 σ1 h => ?_)) h)
    refine pw_goto (tgt := 112) dc_Mod_toSigns_105 (by decide) ?_
    refine PW.drop (ls' := [.ref x0, .int x1, .int x2, uu, uu]) ⟨Or.inl rfl, Or.inl rfl, Or.inl rfl, Or.inr rfl, Or.inr rfl, trivial⟩ ?_
    exact h
set_option maxRecDepth 20000 in
theorem e_Mod_toSigns_112 {d : Nat} {σ : PH} {K : PO → PH → Prop} (x0 : Nat) (x1 : Int32) (x2 : Int32) (y0 : Int32) (y1 : Nat) (h : sh σ y1 = (1, 11) ∧ PW d M_Mod_addSign 0 [.ref y1, .int y0] [] σ (kV (fun σ1 => PW (d + 1) M_Mod_toSigns 115 [.ref x0, .int x1, .int x2, uu, uu] [] σ1 K) K)) : PW (d + 1) M_Mod_toSigns 112 [.ref x0, .int x1, .int x2, uu, uu] [.int y0, .ref y1] σ K := by
  obtain ⟨hs1, h⟩ := h
  refine pw_callV (vs := [.int y0]) (st := []) (b := y1) (cn := 11) dc_Mod_toSigns_112 cq_Mod_addSign (List.mem_of_getElem? (i := 1300) (by decide +kernel)) (List.mem_of_getElem? (i := 57) (by decide +kernel)) (List.mem_of_getElem? (i := 1298) (by decide +kernel)) rfl hs1 rfl rfl (by decide) (cat_cons rfl (cat_nil)) (Nat.le_of_ble_eq_true rfl) (PW.mono (kV_kN (fun σ1 h => ?_)) h)
  exact h
set_option maxRecDepth 20000 in
theorem e_Mod_toSigns_115 {d : Nat} {σ : PH} {K : PO → PH → Prop} (x0 : Nat) (x1 : Int32) (x2 : Int32) (h : PW (d + 1) M_Mod_toSigns 9 [.ref x0, .int x1, .int (x2 + 1), uu, uu] [] σ K) : PW (d + 1) M_Mod_toSigns 115 [.ref x0, .int x1, .int x2, uu, uu] [] σ K := by
  refine pw_iincv (v := 1) dc_Mod_toSigns_115 (by decide) rfl (by decide) ?_
  refine pw_goto (tgt := 9) dc_Mod_toSigns_118 (by decide) ?_
  exact h
theorem dc_Mod_pick_0 : decode M_Mod_pick.2.1 0 = .ok (.aload_n 0, 1) := by decide +kernel
theorem dc_Mod_pick_1 : decode M_Mod_pick.2.1 1 = .ok (.getfield 94, 3) := by decide +kernel
theorem dc_Mod_pick_4 : decode M_Mod_pick.2.1 4 = .ok (.iload_n 1, 1) := by decide +kernel
theorem dc_Mod_pick_5 : decode M_Mod_pick.2.1 5 = .ok (.iconst 0, 1) := by decide +kernel
theorem dc_Mod_pick_6 : decode M_Mod_pick.2.1 6 = .ok (.iastore, 1) := by decide +kernel
theorem dc_Mod_pick_7 : decode M_Mod_pick.2.1 7 = .ok (.aload_n 0, 1) := by decide +kernel
theorem dc_Mod_pick_8 : decode M_Mod_pick.2.1 8 = .ok (.getfield 106, 3) := by decide +kernel
theorem dc_Mod_pick_11 : decode M_Mod_pick.2.1 11 = .ok (.iload_n 1, 1) := by decide +kernel
theorem dc_Mod_pick_12 : decode M_Mod_pick.2.1 12 = .ok (.iaload, 1) := by decide +kernel
theorem dc_Mod_pick_13 : decode M_Mod_pick.2.1 13 = .ok (.ifCond .le 111, 3) := by decide +kernel
theorem dc_Mod_pick_16 : decode M_Mod_pick.2.1 16 = .ok (.aload_n 0, 1) := by decide +kernel
theorem dc_Mod_pick_17 : decode M_Mod_pick.2.1 17 = .ok (.getfield 85, 3) := by decide +kernel
theorem dc_Mod_pick_20 : decode M_Mod_pick.2.1 20 = .ok (.iload_n 1, 1) := by decide +kernel
theorem dc_Mod_pick_21 : decode M_Mod_pick.2.1 21 = .ok (.aload_n 0, 1) := by decide +kernel
theorem dc_Mod_pick_22 : decode M_Mod_pick.2.1 22 = .ok (.getfield 109, 3) := by decide +kernel
theorem dc_Mod_pick_25 : decode M_Mod_pick.2.1 25 = .ok (.iconst 3, 1) := by decide +kernel
theorem dc_Mod_pick_26 : decode M_Mod_pick.2.1 26 = .ok (.iload_n 1, 1) := by decide +kernel
theorem dc_Mod_pick_27 : decode M_Mod_pick.2.1 27 = .ok (.imul, 1) := by decide +kernel
theorem dc_Mod_pick_28 : decode M_Mod_pick.2.1 28 = .ok (.iaload, 1) := by decide +kernel
theorem dc_Mod_pick_29 : decode M_Mod_pick.2.1 29 = .ok (.iastore, 1) := by decide +kernel
theorem dc_Mod_pick_30 : decode M_Mod_pick.2.1 30 = .ok (.aload_n 0, 1) := by decide +kernel
theorem dc_Mod_pick_31 : decode M_Mod_pick.2.1 31 = .ok (.getfield 88, 3) := by decide +kernel
theorem dc_Mod_pick_34 : decode M_Mod_pick.2.1 34 = .ok (.iload_n 1, 1) := by decide +kernel
theorem dc_Mod_pick_35 : decode M_Mod_pick.2.1 35 = .ok (.aload_n 0, 1) := by decide +kernel
theorem dc_Mod_pick_36 : decode M_Mod_pick.2.1 36 = .ok (.getfield 112, 3) := by decide +kernel
theorem dc_Mod_pick_39 : decode M_Mod_pick.2.1 39 = .ok (.iconst 3, 1) := by decide +kernel
theorem dc_Mod_pick_40 : decode M_Mod_pick.2.1 40 = .ok (.iload_n 1, 1) := by decide +kernel
theorem dc_Mod_pick_41 : decode M_Mod_pick.2.1 41 = .ok (.imul, 1) := by decide +kernel
theorem dc_Mod_pick_42 : decode M_Mod_pick.2.1 42 = .ok (.iaload, 1) := by decide +kernel
theorem dc_Mod_pick_43 : decode M_Mod_pick.2.1 43 = .ok (.iastore, 1) := by decide +kernel
theorem dc_Mod_pick_44 : decode M_Mod_pick.2.1 44 = .ok (.aload_n 0, 1) := by decide +kernel
theorem dc_Mod_pick_45 : decode M_Mod_pick.2.1 45 = .ok (.getfield 91, 3) := by decide +kernel
theorem dc_Mod_pick_48 : decode M_Mod_pick.2.1 48 = .ok (.iload_n 1, 1) := by decide +kernel
theorem dc_Mod_pick_49 : decode M_Mod_pick.2.1 49 = .ok (.iconst 1, 1) := by decide +kernel
theorem dc_Mod_pick_50 : decode M_Mod_pick.2.1 50 = .ok (.bastore, 1) := by decide +kernel
theorem dc_Mod_pick_51 : decode M_Mod_pick.2.1 51 = .ok (.aload_n 0, 1) := by decide +kernel
theorem dc_Mod_pick_52 : decode M_Mod_pick.2.1 52 = .ok (.getfield 106, 3) := by decide +kernel
theorem dc_Mod_pick_55 : decode M_Mod_pick.2.1 55 = .ok (.iload_n 1, 1) := by decide +kernel
theorem dc_Mod_pick_56 : decode M_Mod_pick.2.1 56 = .ok (.dup2, 1) := by decide +kernel
theorem dc_Mod_pick_57 : decode M_Mod_pick.2.1 57 = .ok (.iaload, 1) := by decide +kernel
theorem dc_Mod_pick_58 : decode M_Mod_pick.2.1 58 = .ok (.iconst 1, 1) := by decide +kernel
theorem dc_Mod_pick_59 : decode M_Mod_pick.2.1 59 = .ok (.isub, 1) := by decide +kernel
theorem dc_Mod_pick_60 : decode M_Mod_pick.2.1 60 = .ok (.iastore, 1) := by decide +kernel
theorem dc_Mod_pick_61 : decode M_Mod_pick.2.1 61 = .ok (.iconst 0, 1) := by decide +kernel
theorem dc_Mod_pick_62 : decode M_Mod_pick.2.1 62 = .ok (.istore_n 2, 1) := by decide +kernel
theorem dc_Mod_pick_63 : decode M_Mod_pick.2.1 63 = .ok (.iload_n 2, 1) := by decide +kernel
theorem dc_Mod_pick_64 : decode M_Mod_pick.2.1 64 = .ok (.aload_n 0, 1) := by decide +kernel
theorem dc_Mod_pick_65 : decode M_Mod_pick.2.1 65 = .ok (.getfield 106, 3) := by decide +kernel
theorem dc_Mod_pick_68 : decode M_Mod_pick.2.1 68 = .ok (.iload_n 1, 1) := by decide +kernel
theorem dc_Mod_pick_69 : decode M_Mod_pick.2.1 69 = .ok (.iaload, 1) := by decide +kernel
theorem dc_Mod_pick_70 : decode M_Mod_pick.2.1 70 = .ok (.if_icmp .ge 53, 3) := by decide +kernel
theorem dc_Mod_pick_73 : decode M_Mod_pick.2.1 73 = .ok (.aload_n 0, 1) := by decide +kernel
theorem dc_Mod_pick_74 : decode M_Mod_pick.2.1 74 = .ok (.getfield 109, 3) := by decide +kernel
theorem dc_Mod_pick_77 : decode M_Mod_pick.2.1 77 = .ok (.iconst 3, 1) := by decide +kernel
theorem dc_Mod_pick_78 : decode M_Mod_pick.2.1 78 = .ok (.iload_n 1, 1) := by decide +kernel
theorem dc_Mod_pick_79 : decode M_Mod_pick.2.1 79 = .ok (.imul, 1) := by decide +kernel
theorem dc_Mod_pick_80 : decode M_Mod_pick.2.1 80 = .ok (.iload_n 2, 1) := by decide +kernel
theorem dc_Mod_pick_81 : decode M_Mod_pick.2.1 81 = .ok (.iadd, 1) := by decide +kernel
theorem dc_Mod_pick_82 : decode M_Mod_pick.2.1 82 = .ok (.aload_n 0, 1) := by decide +kernel
theorem dc_Mod_pick_83 : decode M_Mod_pick.2.1 83 = .ok (.getfield 109, 3) := by decide +kernel
theorem dc_Mod_pick_86 : decode M_Mod_pick.2.1 86 = .ok (.iconst 3, 1) := by decide +kernel
theorem dc_Mod_pick_87 : decode M_Mod_pick.2.1 87 = .ok (.iload_n 1, 1) := by decide +kernel
theorem dc_Mod_pick_88 : decode M_Mod_pick.2.1 88 = .ok (.imul, 1) := by decide +kernel
theorem dc_Mod_pick_89 : decode M_Mod_pick.2.1 89 = .ok (.iload_n 2, 1) := by decide +kernel
theorem dc_Mod_pick_90 : decode M_Mod_pick.2.1 90 = .ok (.iadd, 1) := by decide +kernel
theorem dc_Mod_pick_91 : decode M_Mod_pick.2.1 91 = .ok (.iconst 1, 1) := by decide +kernel
theorem dc_Mod_pick_92 : decode M_Mod_pick.2.1 92 = .ok (.iadd, 1) := by decide +kernel
theorem dc_Mod_pick_93 : decode M_Mod_pick.2.1 93 = .ok (.iaload, 1) := by decide +kernel
theorem dc_Mod_pick_94 : decode M_Mod_pick.2.1 94 = .ok (.iastore, 1) := by decide +kernel
theorem dc_Mod_pick_95 : decode M_Mod_pick.2.1 95 = .ok (.aload_n 0, 1) := by decide +kernel
theorem dc_Mod_pick_96 : decode M_Mod_pick.2.1 96 = .ok (.getfield 112, 3) := by decide +kernel
theorem dc_Mod_pick_99 : decode M_Mod_pick.2.1 99 = .ok (.iconst 3, 1) := by decide +kernel
theorem dc_Mod_pick_100 : decode M_Mod_pick.2.1 100 = .ok (.iload_n 1, 1) := by decide +kernel
theorem dc_Mod_pick_101 : decode M_Mod_pick.2.1 101 = .ok (.imul, 1) := by decide +kernel
theorem dc_Mod_pick_102 : decode M_Mod_pick.2.1 102 = .ok (.iload_n 2, 1) := by decide +kernel
theorem dc_Mod_pick_103 : decode M_Mod_pick.2.1 103 = .ok (.iadd, 1) := by decide +kernel
theorem dc_Mod_pick_104 : decode M_Mod_pick.2.1 104 = .ok (.aload_n 0, 1) := by decide +kernel
theorem dc_Mod_pick_105 : decode M_Mod_pick.2.1 105 = .ok (.getfield 112, 3) := by decide +kernel
theorem dc_Mod_pick_108 : decode M_Mod_pick.2.1 108 = .ok (.iconst 3, 1) := by decide +kernel
theorem dc_Mod_pick_109 : decode M_Mod_pick.2.1 109 = .ok (.iload_n 1, 1) := by decide +kernel
theorem dc_Mod_pick_110 : decode M_Mod_pick.2.1 110 = .ok (.imul, 1) := by decide +kernel
theorem dc_Mod_pick_111 : decode M_Mod_pick.2.1 111 = .ok (.iload_n 2, 1) := by decide +kernel
theorem dc_Mod_pick_112 : decode M_Mod_pick.2.1 112 = .ok (.iadd, 1) := by decide +kernel
theorem dc_Mod_pick_113 : decode M_Mod_pick.2.1 113 = .ok (.iconst 1, 1) := by decide +kernel
theorem dc_Mod_pick_114 : decode M_Mod_pick.2.1 114 = .ok (.iadd, 1) := by decide +kernel
theorem dc_Mod_pick_115 : decode M_Mod_pick.2.1 115 = .ok (.iaload, 1) := by decide +kernel
theorem dc_Mod_pick_116 : decode M_Mod_pick.2.1 116 = .ok (.iastore, 1) := by decide +kernel
theorem dc_Mod_pick_117 : decode M_Mod_pick.2.1 117 = .ok (.iinc 2 1, 3) := by decide +kernel
theorem dc_Mod_pick_120 : decode M_Mod_pick.2.1 120 = .ok (.goto (-57), 3) := by decide +kernel
theorem dc_Mod_pick_123 : decode M_Mod_pick.2.1 123 = .ok (.return_, 1) := by decide +kernel
theorem dc_Mod_pick_124 : decode M_Mod_pick.2.1 124 = .ok (.iconst 0, 1) := by decide +kernel
theorem dc_Mod_pick_125 : decode M_Mod_pick.2.1 125 = .ok (.istore_n 2, 1) := by decide +kernel
theorem dc_Mod_pick_126 : decode M_Mod_pick.2.1 126 = .ok (.iconst 1, 1) := by decide +kernel
theorem dc_Mod_pick_127 : decode M_Mod_pick.2.1 127 = .ok (.istore_n 3, 1) := by decide +kernel
theorem dc_Mod_pick_128 : decode M_Mod_pick.2.1 128 = .ok (.iload_n 3, 1) := by decide +kernel
theorem dc_Mod_pick_129 : decode M_Mod_pick.2.1 129 = .ok (.aload_n 0, 1) := by decide +kernel
theorem dc_Mod_pick_130 : decode M_Mod_pick.2.1 130 = .ok (.getfield 247, 3) := by decide +kernel
theorem dc_Mod_pick_133 : decode M_Mod_pick.2.1 133 = .ok (.if_icmp .gt 61, 3) := by decide +kernel
theorem dc_Mod_pick_136 : decode M_Mod_pick.2.1 136 = .ok (.aload_n 0, 1) := by decide +kernel
theorem dc_Mod_pick_137 : decode M_Mod_pick.2.1 137 = .ok (.getfield 67, 3) := by decide +kernel
theorem dc_Mod_pick_140 : decode M_Mod_pick.2.1 140 = .ok (.bipush 8, 2) := by decide +kernel
theorem dc_Mod_pick_142 : decode M_Mod_pick.2.1 142 = .ok (.iload_n 3, 1) := by decide +kernel
theorem dc_Mod_pick_143 : decode M_Mod_pick.2.1 143 = .ok (.imul, 1) := by decide +kernel
theorem dc_Mod_pick_144 : decode M_Mod_pick.2.1 144 = .ok (.iload_n 1, 1) := by decide +kernel
theorem dc_Mod_pick_145 : decode M_Mod_pick.2.1 145 = .ok (.iadd, 1) := by decide +kernel
theorem dc_Mod_pick_146 : decode M_Mod_pick.2.1 146 = .ok (.iaload, 1) := by decide +kernel
theorem dc_Mod_pick_147 : decode M_Mod_pick.2.1 147 = .ok (.iconst 1, 1) := by decide +kernel
theorem dc_Mod_pick_148 : decode M_Mod_pick.2.1 148 = .ok (.if_icmp .ne 7, 3) := by decide +kernel
theorem dc_Mod_pick_151 : decode M_Mod_pick.2.1 151 = .ok (.iconst 1, 1) := by decide +kernel
theorem dc_Mod_pick_152 : decode M_Mod_pick.2.1 152 = .ok (.goto 4, 3) := by decide +kernel
theorem dc_Mod_pick_155 : decode M_Mod_pick.2.1 155 = .ok (.iconst 0, 1) := by decide +kernel
theorem dc_Mod_pick_156 : decode M_Mod_pick.2.1 156 = .ok (.istore 4, 2) := by decide +kernel
theorem dc_Mod_pick_158 : decode M_Mod_pick.2.1 158 = .ok (.iload 4, 2) := by decide +kernel
theorem dc_Mod_pick_160 : decode M_Mod_pick.2.1 160 = .ok (.ifCond .eq 26, 3) := by decide +kernel
theorem dc_Mod_pick_163 : decode M_Mod_pick.2.1 163 = .ok (.iload_n 2, 1) := by decide +kernel
theorem dc_Mod_pick_164 : decode M_Mod_pick.2.1 164 = .ok (.ifCond .eq 18, 3) := by decide +kernel
theorem dc_Mod_pick_167 : decode M_Mod_pick.2.1 167 = .ok (.aload_n 0, 1) := by decide +kernel
theorem dc_Mod_pick_168 : decode M_Mod_pick.2.1 168 = .ok (.getfield 52, 3) := by decide +kernel
theorem dc_Mod_pick_171 : decode M_Mod_pick.2.1 171 = .ok (.iload_n 3, 1) := by decide +kernel
theorem dc_Mod_pick_172 : decode M_Mod_pick.2.1 172 = .ok (.iaload, 1) := by decide +kernel
theorem dc_Mod_pick_173 : decode M_Mod_pick.2.1 173 = .ok (.aload_n 0, 1) := by decide +kernel
theorem dc_Mod_pick_174 : decode M_Mod_pick.2.1 174 = .ok (.getfield 52, 3) := by decide +kernel
theorem dc_Mod_pick_177 : decode M_Mod_pick.2.1 177 = .ok (.iload_n 2, 1) := by decide +kernel
theorem dc_Mod_pick_178 : decode M_Mod_pick.2.1 178 = .ok (.iaload, 1) := by decide +kernel
theorem dc_Mod_pick_179 : decode M_Mod_pick.2.1 179 = .ok (.if_icmp .ge 7, 3) := by decide +kernel
theorem dc_Mod_pick_182 : decode M_Mod_pick.2.1 182 = .ok (.iload_n 3, 1) := by decide +kernel
theorem dc_Mod_pick_183 : decode M_Mod_pick.2.1 183 = .ok (.goto 4, 3) := by decide +kernel
theorem dc_Mod_pick_186 : decode M_Mod_pick.2.1 186 = .ok (.iload_n 2, 1) := by decide +kernel
theorem dc_Mod_pick_187 : decode M_Mod_pick.2.1 187 = .ok (.istore_n 2, 1) := by decide +kernel
theorem dc_Mod_pick_188 : decode M_Mod_pick.2.1 188 = .ok (.iinc 3 1, 3) := by decide +kernel
theorem dc_Mod_pick_191 : decode M_Mod_pick.2.1 191 = .ok (.goto (-63), 3) := by decide +kernel
theorem dc_Mod_pick_194 : decode M_Mod_pick.2.1 194 = .ok (.iload_n 2, 1) := by decide +kernel
theorem dc_Mod_pick_195 : decode M_Mod_pick.2.1 195 = .ok (.ifCond .le 56, 3) := by decide +kernel
theorem dc_Mod_pick_198 : decode M_Mod_pick.2.1 198 = .ok (.aload_n 0, 1) := by decide +kernel
theorem dc_Mod_pick_199 : decode M_Mod_pick.2.1 199 = .ok (.getfield 85, 3) := by decide +kernel
theorem dc_Mod_pick_202 : decode M_Mod_pick.2.1 202 = .ok (.iload_n 1, 1) := by decide +kernel
theorem dc_Mod_pick_203 : decode M_Mod_pick.2.1 203 = .ok (.iload_n 2, 1) := by decide +kernel
theorem dc_Mod_pick_204 : decode M_Mod_pick.2.1 204 = .ok (.iastore, 1) := by decide +kernel
theorem dc_Mod_pick_205 : decode M_Mod_pick.2.1 205 = .ok (.aload_n 0, 1) := by decide +kernel
theorem dc_Mod_pick_206 : decode M_Mod_pick.2.1 206 = .ok (.getfield 88, 3) := by decide +kernel
theorem dc_Mod_pick_209 : decode M_Mod_pick.2.1 209 = .ok (.iload_n 1, 1) := by decide +kernel
theorem dc_Mod_pick_210 : decode M_Mod_pick.2.1 210 = .ok (.aload_n 0, 1) := by decide +kernel
theorem dc_Mod_pick_211 : decode M_Mod_pick.2.1 211 = .ok (.getfield 82, 3) := by decide +kernel
theorem dc_Mod_pick_214 : decode M_Mod_pick.2.1 214 = .ok (.iload_n 1, 1) := by decide +kernel
theorem dc_Mod_pick_215 : decode M_Mod_pick.2.1 215 = .ok (.iaload, 1) := by decide +kernel
theorem dc_Mod_pick_216 : decode M_Mod_pick.2.1 216 = .ok (.iastore, 1) := by decide +kernel
theorem dc_Mod_pick_217 : decode M_Mod_pick.2.1 217 = .ok (.aload_n 0, 1) := by decide +kernel
theorem dc_Mod_pick_218 : decode M_Mod_pick.2.1 218 = .ok (.getfield 91, 3) := by decide +kernel
theorem dc_Mod_pick_221 : decode M_Mod_pick.2.1 221 = .ok (.iload_n 1, 1) := by decide +kernel
theorem dc_Mod_pick_222 : decode M_Mod_pick.2.1 222 = .ok (.iconst 0, 1) := by decide +kernel
theorem dc_Mod_pick_223 : decode M_Mod_pick.2.1 223 = .ok (.bastore, 1) := by decide +kernel
theorem dc_Mod_pick_224 : decode M_Mod_pick.2.1 224 = .ok (.aload_n 0, 1) := by decide +kernel
theorem dc_Mod_pick_225 : decode M_Mod_pick.2.1 225 = .ok (.getfield 82, 3) := by decide +kernel
theorem dc_Mod_pick_228 : decode M_Mod_pick.2.1 228 = .ok (.iload_n 1, 1) := by decide +kernel
theorem dc_Mod_pick_229 : decode M_Mod_pick.2.1 229 = .ok (.aload_n 0, 1) := by decide +kernel
theorem dc_Mod_pick_230 : decode M_Mod_pick.2.1 230 = .ok (.getfield 82, 3) := by decide +kernel
theorem dc_Mod_pick_233 : decode M_Mod_pick.2.1 233 = .ok (.iload_n 1, 1) := by decide +kernel
theorem dc_Mod_pick_234 : decode M_Mod_pick.2.1 234 = .ok (.iaload, 1) := by decide +kernel
theorem dc_Mod_pick_235 : decode M_Mod_pick.2.1 235 = .ok (.invokestatic 220, 3) := by decide +kernel
theorem dc_Mod_pick_238 : decode M_Mod_pick.2.1 238 = .ok (.iastore, 1) := by decide +kernel
theorem dc_Mod_pick_239 : decode M_Mod_pick.2.1 239 = .ok (.aload_n 0, 1) := by decide +kernel
theorem dc_Mod_pick_240 : decode M_Mod_pick.2.1 240 = .ok (.getfield 67, 3) := by decide +kernel
theorem dc_Mod_pick_243 : decode M_Mod_pick.2.1 243 = .ok (.bipush 8, 2) := by decide +kernel
theorem dc_Mod_pick_245 : decode M_Mod_pick.2.1 245 = .ok (.iload_n 2, 1) := by decide +kernel
theorem dc_Mod_pick_246 : decode M_Mod_pick.2.1 246 = .ok (.imul, 1) := by decide +kernel
theorem dc_Mod_pick_247 : decode M_Mod_pick.2.1 247 = .ok (.iload_n 1, 1) := by decide +kernel
theorem dc_Mod_pick_248 : decode M_Mod_pick.2.1 248 = .ok (.iadd, 1) := by decide +kernel
theorem dc_Mod_pick_249 : decode M_Mod_pick.2.1 249 = .ok (.iconst 2, 1) := by decide +kernel
theorem dc_Mod_pick_250 : decode M_Mod_pick.2.1 250 = .ok (.iastore, 1) := by decide +kernel
theorem dc_Mod_pick_251 : decode M_Mod_pick.2.1 251 = .ok (.return_, 1) := by decide +kernel
set_option maxRecDepth 20000 in
theorem e_Mod_pick_0 {d : Nat} {σ : PH} {K : PO → PH → Prop} (x0 : Nat) (x1 : Int32) (h : sh σ x0 = (1, 11) ∧ (∃ b1 : Nat, gR σ 735 x0 = some b1 ∧ (∃ n1 : Nat, sh σ b1 = (2, n1) ∧ vp_in x1 n1 ∧ (∀ σ1 : PH, σ1 = uI σ b1 (ix x1) 0 → sh σ1 x0 = (1, 11) ∧ (∃ b2 : Nat, gR σ1 739 x0 = some b2 ∧ (∃ n2 : Nat, sh σ1 b2 = (2, n2) ∧ vp_in x1 n2 ∧ (if (eI σ1 b2 (ix x1)) ≤ 0 then PW (d + 1) M_Mod_pick 128 [.ref x0, .int x1, .int 0, .int 1, uu] [] σ1 K else (∃ b3 : Nat, gR σ1 732 x0 = some b3 ∧ (∃ b4 : Nat, gR σ1 740 x0 = some b4 ∧ (∃ n3 : Nat, sh σ1 b4 = (2, n3) ∧ vp_in (3 * x1) n3 ∧ (∃ n4 : Nat, sh σ1 b3 = (2, n4) ∧ vp_in x1 n4 ∧ (∀ σ2 : PH, σ2 = uI σ1 b3 (ix x1) (eI σ1 b4 (ix (3 * x1))) → sh σ2 x0 = (1, 11) ∧ (∃ b5 : Nat, gR σ2 733 x0 = some b5 ∧ (∃ b6 : Nat, gR σ2 741 x0 = some b6 ∧ (∃ n5 : Nat, sh σ2 b6 = (2, n5) ∧ vp_in (3 * x1) n5 ∧ (∃ n6 : Nat, sh σ2 b5 = (2, n6) ∧ vp_in x1 n6 ∧ (∀ σ3 : PH, σ3 = uI σ2 b5 (ix x1) (eI σ2 b6 (ix (3 * x1))) → sh σ3 x0 = (1, 11) ∧ (∃ b7 : Nat, gR σ3 734 x0 = some b7 ∧ (∃ n7 : Nat, sh σ3 b7 = (4, n7) ∧ vp_in x1 n7 ∧ (∀ σ4 : PH, σ4 = uI σ3 b7 (ix x1) 1 → sh σ4 x0 = (1, 11) ∧ (∃ b8 : Nat, gR σ4 739 x0 = some b8 ∧ (∃ n8 : Nat, sh σ4 b8 = (2, n8) ∧ vp_in x1 n8 ∧ vp_in x1 n8 ∧ (∀ σ5 : PH, σ5 = uI σ4 b8 (ix x1) ((eI σ4 b8 (ix x1)) - 1) → PW (d + 1) M_Mod_pick 63 [.ref x0, .int x1, .int 0, uu, uu] [] σ5 K))))))))))))))))))))))) : PW (d + 1) M_Mod_pick 0 [.ref x0, .int x1, uu, uu, uu] [] σ K := by
  refine pw_aload_n dc_Mod_pick_0 rfl rfl ?_
  obtain ⟨hs1, h⟩ := h
  refine pw_getR (c := 11) (k := 31) (f := 735) dc_Mod_pick_1 fl_Mod_94 rfl rfl hs1 ?_
  obtain ⟨b1, hb1, h⟩ := h
  refine PW.top (v' := .ref b1) (congrArg va_rf hb1) ?_
  refine pw_iload_n dc_Mod_pick_4 rfl ?_
  refine pw_iconst (v := 0) dc_Mod_pick_5 (by decide) ?_
  obtain ⟨n1, hs2, h⟩ := h
  obtain ⟨hi1, h⟩ := h
  have h := h _ rfl
  refine pw_iast dc_Mod_pick_6 hs2 hi1 ?_
  refine pw_aload_n dc_Mod_pick_7 rfl rfl ?_
  obtain ⟨hs3, h⟩ := h
  refine pw_getR (c := 11) (k := 35) (f := 739) dc_Mod_pick_8 fl_Mod_106 rfl rfl hs3 ?_
  obtain ⟨b2, hb2, h⟩ := h
  refine PW.top (v' := .ref b2) (congrArg va_rf hb2) ?_
  refine pw_iload_n dc_Mod_pick_11 rfl ?_
  obtain ⟨n2, hs4, h⟩ := h
  obtain ⟨hi2, h⟩ := h
  refine pw_iald dc_Mod_pick_12 hs4 hi2 ?_
  refine pw_if_le (tgt := 124) dc_Mod_pick_13 (by decide) (fun hc => ?_) (fun hc => ?_)
  · have h := ite_t h hc
    refine pw_iconst (v := 0) dc_Mod_pick_124 (by decide) ?_
    refine pw_istore_n dc_Mod_pick_125 (by decide) ?_
    refine pw_iconst (v := 1) dc_Mod_pick_126 (by decide) ?_
    refine pw_istore_n dc_Mod_pick_127 (by decide) ?_
    exact h
  · have h := ite_f h hc
    refine pw_aload_n dc_Mod_pick_16 rfl rfl ?_
    refine pw_getR (c := 11) (k := 28) (f := 732) dc_Mod_pick_17 fl_Mod_85 rfl rfl hs3 ?_
    obtain ⟨b3, hb3, h⟩ := h
    refine PW.top (v' := .ref b3) (congrArg va_rf hb3) ?_
    refine pw_iload_n dc_Mod_pick_20 rfl ?_
    refine pw_aload_n dc_Mod_pick_21 rfl rfl ?_
    refine pw_getR (c := 11) (k := 36) (f := 740) dc_Mod_pick_22 fl_Mod_109 rfl rfl hs3 ?_
    obtain ⟨b4, hb4, h⟩ := h
    refine PW.top (v' := .ref b4) (congrArg va_rf hb4) ?_
    refine pw_iconst (v := 3) dc_Mod_pick_25 (by decide) ?_
    refine pw_iload_n dc_Mod_pick_26 rfl ?_
    refine pw_imul dc_Mod_pick_27 ?_
    obtain ⟨n3, hs5, h⟩ := h
    obtain ⟨hi3, h⟩ := h
    refine pw_iald dc_Mod_pick_28 hs5 hi3 ?_
    obtain ⟨n4, hs6, h⟩ := h
    obtain ⟨hi4, h⟩ := h
    have h := h _ rfl
    refine pw_iast dc_Mod_pick_29 hs6 hi4 ?_
    refine pw_aload_n dc_Mod_pick_30 rfl rfl ?_
    obtain ⟨hs7, h⟩ := h
    refine pw_getR (c := 11) (k := 29) (f := 733) dc_Mod_pick_31 fl_Mod_88 rfl rfl hs7 ?_
    obtain ⟨b5, hb5, h⟩ := h
    refine PW.top (v' := .ref b5) (congrArg va_rf hb5) ?_
    refine pw_iload_n dc_Mod_pick_34 rfl ?_
    refine pw_aload_n dc_Mod_pick_35 rfl rfl ?_
    refine pw_getR (c := 11) (k := 37) (f := 741) dc_Mod_pick_36 fl_Mod_112 rfl rfl hs7 ?_
    obtain ⟨b6, hb6, h⟩ := h
    refine PW.top (v' := .ref b6) (congrArg va_rf hb6) ?_
    refine pw_iconst (v := 3) dc_Mod_pick_39 (by decide) ?_
    refine pw_iload_n dc_Mod_pick_40 rfl ?_
    refine pw_imul dc_Mod_pick_41 ?_
    obtain ⟨n5, hs8, h⟩ := h
    obtain ⟨hi5, h⟩ := h
    refine pw_iald dc_Mod_pick_42 hs8 hi5 ?_
    obtain ⟨n6, hs9, h⟩ := h
    obtain ⟨hi6, h⟩ := h
    have h := h _ rfl
    refine pw_iast dc_Mod_pick_43 hs9 hi6 ?_
    refine pw_aload_n dc_Mod_pick_44 rfl rfl ?_
    obtain ⟨hs10, h⟩ := h
    refine pw_getR (c := 11) (k := 30) (f := 734) dc_Mod_pick_45 fl_Mod_91 rfl rfl hs10 ?_
    obtain ⟨b7, hb7, h⟩ := h
    refine PW.top (v' := .ref b7) (congrArg va_rf hb7) ?_
    refine pw_iload_n dc_Mod_pick_48 rfl ?_
    refine pw_iconst (v := 1) dc_Mod_pick_49 (by decide) ?_
    obtain ⟨n7, hs11, h⟩ := h
    obtain ⟨hi7, h⟩ := h
    have h := h _ rfl
    refine pw_zast dc_Mod_pick_50 hs11 hi7 (Or.inr rfl) ?_
    refine pw_aload_n dc_Mod_pick_51 rfl rfl ?_
    obtain ⟨hs12, h⟩ := h
    refine pw_getR (c := 11) (k := 35) (f := 739) dc_Mod_pick_52 fl_Mod_106 rfl rfl hs12 ?_
    obtain ⟨b8, hb8, h⟩ := h
    refine PW.top (v' := .ref b8) (congrArg va_rf hb8) ?_
    refine pw_iload_n dc_Mod_pick_55 rfl ?_
    refine pw_dup2 dc_Mod_pick_56 rfl rfl ?_
    obtain ⟨n8, hs13, h⟩ := h
    obtain ⟨hi8, h⟩ := h
    refine pw_iald dc_Mod_pick_57 hs13 hi8 ?_
    refine pw_iconst (v := 1) dc_Mod_pick_58 (by decide) ?_
    refine pw_isub dc_Mod_pick_59 ?_
    obtain ⟨hi9, h⟩ := h
    have h := h _ rfl
    refine pw_iast dc_Mod_pick_60 hs13 hi9 ?_
    refine pw_iconst (v := 0) dc_Mod_pick_61 (by decide) ?_
    refine pw_istore_n dc_Mod_pick_62 (by decide) ?_
    exact h
set_option maxRecDepth 20000 in
theorem e_Mod_pick_63 {d : Nat} {σ : PH} {K : PO → PH → Prop} (x0 : Nat) (x1 : Int32) (x2 : Int32) (h : sh σ x0 = (1, 11) ∧ (∃ b1 : Nat, gR σ 739 x0 = some b1 ∧ (∃ n1 : Nat, sh σ b1 = (2, n1) ∧ vp_in x1 n1 ∧ (if (eI σ b1 (ix x1)) ≤ x2 then K (.inl none) σ else (∃ b2 : Nat, gR σ 740 x0 = some b2 ∧ (∃ n2 : Nat, sh σ b2 = (2, n2) ∧ vp_in (((3 * x1) + x2) + 1) n2 ∧ vp_in ((3 * x1) + x2) n2 ∧ (∀ σ1 : PH, σ1 = uI σ b2 (ix ((3 * x1) + x2)) (eI σ b2 (ix (((3 * x1) + x2) + 1))) → sh σ1 x0 = (1, 11) ∧ (∃ b3 : Nat, gR σ1 741 x0 = some b3 ∧ (∃ n3 : Nat, sh σ1 b3 = (2, n3) ∧ vp_in (((3 * x1) + x2) + 1) n3 ∧ vp_in ((3 * x1) + x2) n3 ∧ (∀ σ2 : PH, σ2 = uI σ1 b3 (ix ((3 * x1) + x2)) (eI σ1 b3 (ix (((3 * x1) + x2) + 1))) → PW (d + 1) M_Mod_pick 63 [.ref x0, .int x1, .int (x2 + 1), uu, uu] [] σ2 K)))))))))) : PW (d + 1) M_Mod_pick 63 [.ref x0, .int x1, .int x2, uu, uu] [] σ K := by
  refine pw_iload_n dc_Mod_pick_63 rfl ?_
  refine pw_aload_n dc_Mod_pick_64 rfl rfl ?_
  obtain ⟨hs1, h⟩ := h
  refine pw_getR (c := 11) (k := 35) (f := 739) dc_Mod_pick_65 fl_Mod_106 rfl rfl hs1 ?_
  obtain ⟨b1, hb1, h⟩ := h
  refine PW.top (v' := .ref b1) (congrArg va_rf hb1) ?_
  refine pw_iload_n dc_Mod_pick_68 rfl ?_
  obtain ⟨n1, hs2, h⟩ := h
  obtain ⟨hi1, h⟩ := h
  refine pw_iald dc_Mod_pick_69 hs2 hi1 ?_
  refine pw_icmp_ge (tgt := 123) dc_Mod_pick_70 (by decide) (fun hc => ?_) (fun hc => ?_)
  · have h := ite_t h hc
    exact pw_vret dc_Mod_pick_123 rfl h
  · have h := ite_f h hc
    refine pw_aload_n dc_Mod_pick_73 rfl rfl ?_
    refine pw_getR (c := 11) (k := 36) (f := 740) dc_Mod_pick_74 fl_Mod_109 rfl rfl hs1 ?_
    obtain ⟨b2, hb2, h⟩ := h
    refine PW.top (v' := .ref b2) (congrArg va_rf hb2) ?_
    refine pw_iconst (v := 3) dc_Mod_pick_77 (by decide) ?_
    refine pw_iload_n dc_Mod_pick_78 rfl ?_
    refine pw_imul dc_Mod_pick_79 ?_
    refine pw_iload_n dc_Mod_pick_80 rfl ?_
    refine pw_iadd dc_Mod_pick_81 ?_
    refine pw_aload_n dc_Mod_pick_82 rfl rfl ?_
    refine pw_getR (c := 11) (k := 36) (f := 740) dc_Mod_pick_83 fl_Mod_109 rfl rfl hs1 ?_
    refine PW.top (v' := .ref b2) (congrArg va_rf hb2) ?_
    refine pw_iconst (v := 3) dc_Mod_pick_86 (by decide) ?_
    refine pw_iload_n dc_Mod_pick_87 rfl ?_
    refine pw_imul dc_Mod_pick_88 ?_
    refine pw_iload_n dc_Mod_pick_89 rfl ?_
    refine pw_iadd dc_Mod_pick_90 ?_
    refine pw_iconst (v := 1) dc_Mod_pick_91 (by decide) ?_
    refine pw_iadd dc_Mod_pick_92 ?_
    obtain ⟨n2, hs3, h⟩ := h
    obtain ⟨hi2, h⟩ := h
    refine pw_iald dc_Mod_pick_93 hs3 hi2 ?_
    obtain ⟨hi3, h⟩ := h
    have h := h _ rfl
    refine pw_iast dc_Mod_pick_94 hs3 hi3 ?_
    refine pw_aload_n dc_Mod_pick_95 rfl rfl ?_
    obtain ⟨hs4, h⟩ := h
    refine pw_getR (c := 11) (k := 37) (f := 741) dc_Mod_pick_96 fl_Mod_112 rfl rfl hs4 ?_
    obtain ⟨b3, hb3, h⟩ := h
    refine PW.top (v' := .ref b3) (congrArg va_rf hb3) ?_
    refine pw_iconst (v := 3) dc_Mod_pick_99 (by decide) ?_
    refine pw_iload_n dc_Mod_pick_100 rfl ?_
    refine pw_imul dc_Mod_pick_101 ?_
    refine pw_iload_n dc_Mod_pick_102 rfl ?_
    refine pw_iadd dc_Mod_pick_103 ?_
    refine pw_aload_n dc_Mod_pick_104 rfl rfl ?_
    refine pw_getR (c := 11) (k := 37) (f := 741) dc_Mod_pick_105 fl_Mod_112 rfl rfl hs4 ?_
    refine PW.top (v' := .ref b3) (congrArg va_rf hb3) ?_
    refine pw_iconst (v := 3) dc_Mod_pick_108 (by decide) ?_
    refine pw_iload_n dc_Mod_pick_109 rfl ?_
    refine pw_imul dc_Mod_pick_110 ?_
    refine pw_iload_n dc_Mod_pick_111 rfl ?_
    refine pw_iadd dc_Mod_pick_112 ?_
    refine pw_iconst (v := 1) dc_Mod_pick_113 (by decide) ?_
    refine pw_iadd dc_Mod_pick_114 ?_
    obtain ⟨n3, hs5, h⟩ := h
    obtain ⟨hi4, h⟩ := h
    refine pw_iald dc_Mod_pick_115 hs5 hi4 ?_
    obtain ⟨hi5, h⟩ := h
    have h := h _ rfl
    refine pw_iast dc_Mod_pick_116 hs5 hi5 ?_
    refine pw_iincv (v := 1) dc_Mod_pick_117 (by decide) rfl (by decide) ?_
    refine pw_goto (tgt := 63) dc_Mod_pick_120 (by decide) ?_
    exact h
set_option maxRecDepth 20000 in
theorem e_Mod_pick_128 {d : Nat} {σ : PH} {K : PO → PH → Prop} (x0 : Nat) (x1 : Int32) (x2 : Int32) (x3 : Int32) (h : sh σ x0 = (1, 11) ∧ (if (gI σ 719 x0) < x3 then (if x2 ≤ 0 then K (.inl none) σ else (∃ b1 : Nat, gR σ 732 x0 = some b1 ∧ (∃ n1 : Nat, sh σ b1 = (2, n1) ∧ vp_in x1 n1 ∧ (∀ σ1 : PH, σ1 = uI σ b1 (ix x1) x2 → sh σ1 x0 = (1, 11) ∧ (∃ b2 : Nat, gR σ1 733 x0 = some b2 ∧ (∃ b3 : Nat, gR σ1 731 x0 = some b3 ∧ (∃ n2 : Nat, sh σ1 b3 = (2, n2) ∧ vp_in x1 n2 ∧ (∃ n3 : Nat, sh σ1 b2 = (2, n3) ∧ vp_in x1 n3 ∧ (∀ σ2 : PH, σ2 = uI σ1 b2 (ix x1) (eI σ1 b3 (ix x1)) → sh σ2 x0 = (1, 11) ∧ (∃ b4 : Nat, gR σ2 734 x0 = some b4 ∧ (∃ n4 : Nat, sh σ2 b4 = (4, n4) ∧ vp_in x1 n4 ∧ (∀ σ3 : PH, σ3 = uI σ2 b4 (ix x1) 0 → sh σ3 x0 = (1, 11) ∧ (∃ b5 : Nat, gR σ3 731 x0 = some b5 ∧ (∃ n5 : Nat, sh σ3 b5 = (2, n5) ∧ vp_in x1 n5 ∧ PW d M_Mod_after 0 [.int (eI σ3 b5 (ix x1))] [] σ3 (kI (fun r1 σ4 => (∃ n6 : Nat, sh σ4 b5 = (2, n6) ∧ vp_in x1 n6 ∧ (∀ σ5 : PH, σ5 = uI σ4 b5 (ix x1) r1 → sh σ5 x0 = (1, 11) ∧ (∃ b6 : Nat, gR σ5 725 x0 = some b6 ∧ (∃ n7 : Nat, sh σ5 b6 = (2, n7) ∧ vp_in ((8 * x2) + x1) n7 ∧ (∀ σ6 : PH, σ6 = uI σ5 b6 (ix ((8 * x2) + x1)) 2 → K (.inl none) σ6)))))) K))))))))))))))) else (∃ b7 : Nat, gR σ 725 x0 = some b7 ∧ (∃ n8 : Nat, sh σ b7 = (2, n8) ∧ vp_in ((8 * x3) + x1) n8 ∧ (if (eI σ b7 (ix ((8 * x3) + x1))) = 1 then PW (d + 1) M_Mod_pick 156 [.ref x0, .int x1, .int x2, .int x3, uu] [.int 1] σ K else PW (d + 1) M_Mod_pick 156 [.ref x0, .int x1, .int x2, .int x3, uu] [.int 0] σ K))))) : PW (d + 1) M_Mod_pick 128 [.ref x0, .int x1, .int x2, .int x3, uu] [] σ K := by
  refine pw_iload_n dc_Mod_pick_128 rfl ?_
  refine pw_aload_n dc_Mod_pick_129 rfl rfl ?_
  obtain ⟨hs1, h⟩ := h
  refine pw_getI (c := 11) (k := 15) (f := 719) dc_Mod_pick_130 fl_Mod_247 rfl rfl hs1 ?_
  refine pw_icmp_gt (tgt := 194) dc_Mod_pick_133 (by decide) (fun hc => ?_) (fun hc => ?_)
  · have h := ite_t h hc
    refine pw_iload_n dc_Mod_pick_194 rfl ?_
    refine pw_if_le (tgt := 251) dc_Mod_pick_195 (by decide) (fun hc => ?_) (fun hc => ?_)
    · have h := ite_t h hc
      exact pw_vret dc_Mod_pick_251 rfl h
    · have h := ite_f h hc
      refine pw_aload_n dc_Mod_pick_198 rfl rfl ?_
      refine pw_getR (c := 11) (k := 28) (f := 732) dc_Mod_pick_199 fl_Mod_85 rfl rfl hs1 ?_
      obtain ⟨b1, hb1, h⟩ := h
      refine PW.top (v' := .ref b1) (congrArg va_rf hb1) ?_
      refine pw_iload_n dc_Mod_pick_202 rfl ?_
      refine pw_iload_n dc_Mod_pick_203 rfl ?_
      obtain ⟨n1, hs2, h⟩ := h
      obtain ⟨hi1, h⟩ := h
      have h := h _ rfl
      refine pw_iast dc_Mod_pick_204 hs2 hi1 ?_
      refine pw_aload_n dc_Mod_pick_205 rfl rfl ?_
      obtain ⟨hs3, h⟩ := h
      refine pw_getR (c := 11) (k := 29) (f := 733) dc_Mod_pick_206 fl_Mod_88 rfl rfl hs3 ?_
      obtain ⟨b2, hb2, h⟩ := h
      refine PW.top (v' := .ref b2) (congrArg va_rf hb2) ?_
      refine pw_iload_n dc_Mod_pick_209 rfl ?_
      refine pw_aload_n dc_Mod_pick_210 rfl rfl ?_
      refine pw_getR (c := 11) (k := 27) (f := 731) dc_Mod_pick_211 fl_Mod_82 rfl rfl hs3 ?_
      obtain ⟨b3, hb3, h⟩ := h
      refine PW.top (v' := .ref b3) (congrArg va_rf hb3) ?_
      refine pw_iload_n dc_Mod_pick_214 rfl ?_
      obtain ⟨n2, hs4, h⟩ := h
      obtain ⟨hi2, h⟩ := h
      refine pw_iald dc_Mod_pick_215 hs4 hi2 ?_
      obtain ⟨n3, hs5, h⟩ := h
      obtain ⟨hi3, h⟩ := h
      have h := h _ rfl
      refine pw_iast dc_Mod_pick_216 hs5 hi3 ?_
      refine pw_aload_n dc_Mod_pick_217 rfl rfl ?_
      obtain ⟨hs6, h⟩ := h
      refine pw_getR (c := 11) (k := 30) (f := 734) dc_Mod_pick_218 fl_Mod_91 rfl rfl hs6 ?_
      obtain ⟨b4, hb4, h⟩ := h
      refine PW.top (v' := .ref b4) (congrArg va_rf hb4) ?_
      refine pw_iload_n dc_Mod_pick_221 rfl ?_
      refine pw_iconst (v := 0) dc_Mod_pick_222 (by decide) ?_
      obtain ⟨n4, hs7, h⟩ := h
      obtain ⟨hi4, h⟩ := h
      have h := h _ rfl
      refine pw_zast dc_Mod_pick_223 hs7 hi4 (Or.inl rfl) ?_
      refine pw_aload_n dc_Mod_pick_224 rfl rfl ?_
      obtain ⟨hs8, h⟩ := h
      refine pw_getR (c := 11) (k := 27) (f := 731) dc_Mod_pick_225 fl_Mod_82 rfl rfl hs8 ?_
      obtain ⟨b5, hb5, h⟩ := h
      refine PW.top (v' := .ref b5) (congrArg va_rf hb5) ?_
      refine pw_iload_n dc_Mod_pick_228 rfl ?_
      refine pw_aload_n dc_Mod_pick_229 rfl rfl ?_
      refine pw_getR (c := 11) (k := 27) (f := 731) dc_Mod_pick_230 fl_Mod_82 rfl rfl hs8 ?_
      refine PW.top (v' := .ref b5) (congrArg va_rf hb5) ?_
      refine pw_iload_n dc_Mod_pick_233 rfl ?_
      obtain ⟨n5, hs9, h⟩ := h
      obtain ⟨hi5, h⟩ := h
      refine pw_iald dc_Mod_pick_234 hs9 hi5 ?_
      refine pw_callS (vs := [.int _]) (st := [.int x1, .ref b5]) dc_Mod_pick_235 cq_Mod_after (List.mem_of_getElem? (i := 1200) (by decide +kernel)) (List.mem_of_getElem? (i := 1199) (by decide +kernel)) rfl rfl (cat_cons rfl (cat_nil)) (Nat.le_of_ble_eq_true rfl) (PW.mono (kI_kN (fun r1 σ4 h => ?_)) h)
      obtain ⟨n6, hs10, h⟩ := h
      obtain ⟨hi6, h⟩ := h
      have h := h _ rfl
      refine pw_iast dc_Mod_pick_238 hs10 hi6 ?_
      refine pw_aload_n dc_Mod_pick_239 rfl rfl ?_
      obtain ⟨hs11, h⟩ := h
      refine pw_getR (c := 11) (k := 21) (f := 725) dc_Mod_pick_240 fl_Mod_67 rfl rfl hs11 ?_
      obtain ⟨b6, hb6, h⟩ := h
      refine PW.top (v' := .ref b6) (congrArg va_rf hb6) ?_
      refine pw_bipush (v := 8) dc_Mod_pick_243 (by decide) ?_
      refine pw_iload_n dc_Mod_pick_245 rfl ?_
      refine pw_imul dc_Mod_pick_246 ?_
      refine pw_iload_n dc_Mod_pick_247 rfl ?_
      refine pw_iadd dc_Mod_pick_248 ?_
      refine pw_iconst (v := 2) dc_Mod_pick_249 (by decide) ?_
      obtain ⟨n7, hs12, h⟩ := h
      obtain ⟨hi7, h⟩ := h
      have h := h _ rfl
      refine pw_iast dc_Mod_pick_250 hs12 hi7 ?_
      exact pw_vret dc_Mod_pick_251 rfl h
  · have h := ite_f h hc
    refine pw_aload_n dc_Mod_pick_136 rfl rfl ?_
    refine pw_getR (c := 11) (k := 21) (f := 725) dc_Mod_pick_137 fl_Mod_67 rfl rfl hs1 ?_
    obtain ⟨b7, hb7, h⟩ := h
    refine PW.top (v' := .ref b7) (congrArg va_rf hb7) ?_
    refine pw_bipush (v := 8) dc_Mod_pick_140 (by decide) ?_
    refine pw_iload_n dc_Mod_pick_142 rfl ?_
    refine pw_imul dc_Mod_pick_143 ?_
    refine pw_iload_n dc_Mod_pick_144 rfl ?_
    refine pw_iadd dc_Mod_pick_145 ?_
    obtain ⟨n8, hs13, h⟩ := h
    obtain ⟨hi8, h⟩ := h
    refine pw_iald dc_Mod_pick_146 hs13 hi8 ?_
    refine pw_iconst (v := 1) dc_Mod_pick_147 (by decide) ?_
    refine pw_icmp_ne (tgt := 155) dc_Mod_pick_148 (by decide) (fun hc => ?_) (fun hc => ?_)
    · have h := ite_f h hc
      refine pw_iconst (v := 0) dc_Mod_pick_155 (by decide) ?_
      exact h
    · have h := ite_t h hc
      refine pw_iconst (v := 1) dc_Mod_pick_151 (by decide) ?_
      refine pw_goto (tgt := 156) dc_Mod_pick_152 (by decide) ?_
      exact h
set_option maxRecDepth 20000 in
theorem e_Mod_pick_156 {d : Nat} {σ : PH} {K : PO → PH → Prop} (x0 : Nat) (x1 : Int32) (x2 : Int32) (x3 : Int32) (y0 : Int32) (h : (if y0 = 0 then PW (d + 1) M_Mod_pick 186 [.ref x0, .int x1, .int x2, .int x3, uu] [] σ K else (if x2 = 0 then PW (d + 1) M_Mod_pick 182 [.ref x0, .int x1, uu, .int x3, uu] [] σ K else sh σ x0 = (1, 11) ∧ (∃ b1 : Nat, gR σ 720 x0 = some b1 ∧ (∃ n1 : Nat, sh σ b1 = (2, n1) ∧ vp_in x3 n1 ∧ vp_in x2 n1 ∧ (if (eI σ b1 (ix x2)) ≤ (eI σ b1 (ix x3)) then PW (d + 1) M_Mod_pick 186 [.ref x0, .int x1, .int x2, .int x3, uu] [] σ K else PW (d + 1) M_Mod_pick 182 [.ref x0, .int x1, uu, .int x3, uu] [] σ K)))))) : PW (d + 1) M_Mod_pick 156 [.ref x0, .int x1, .int x2, .int x3, uu] [.int y0] σ K := by
  refine pw_istore dc_Mod_pick_156 (by decide) ?_
  refine pw_iload dc_Mod_pick_158 rfl ?_
  refine pw_if_eq (tgt := 186) dc_Mod_pick_160 (by decide) (fun hc => ?_) (fun hc => ?_)
  · have h := ite_t h hc
    refine PW.drop (ls' := [.ref x0, .int x1, .int x2, .int x3, uu]) ⟨Or.inl rfl, Or.inl rfl, Or.inl rfl, Or.inl rfl, Or.inr rfl, trivial⟩ ?_
    exact h
  · have h := ite_f h hc
    refine pw_iload_n dc_Mod_pick_163 rfl ?_
    refine pw_if_eq (tgt := 182) dc_Mod_pick_164 (by decide) (fun hc => ?_) (fun hc => ?_)
    · have h := ite_t h hc
      refine PW.drop (ls' := [.ref x0, .int x1, uu, .int x3, uu]) ⟨Or.inl rfl, Or.inl rfl, Or.inr rfl, Or.inl rfl, Or.inr rfl, trivial⟩ ?_
      exact h
    · have h := ite_f h hc
      refine pw_aload_n dc_Mod_pick_167 rfl rfl ?_
      obtain ⟨hs1, h⟩ := h
      refine pw_getR (c := 11) (k := 16) (f := 720) dc_Mod_pick_168 fl_Mod_52 rfl rfl hs1 ?_
      obtain ⟨b1, hb1, h⟩ := h
      refine PW.top (v' := .ref b1) (congrArg va_rf hb1) ?_
      refine pw_iload_n dc_Mod_pick_171 rfl ?_
      obtain ⟨n1, hs2, h⟩ := h
      obtain ⟨hi1, h⟩ := h
      refine pw_iald dc_Mod_pick_172 hs2 hi1 ?_
      refine pw_aload_n dc_Mod_pick_173 rfl rfl ?_
      refine pw_getR (c := 11) (k := 16) (f := 720) dc_Mod_pick_174 fl_Mod_52 rfl rfl hs1 ?_
      refine PW.top (v' := .ref b1) (congrArg va_rf hb1) ?_
      refine pw_iload_n dc_Mod_pick_177 rfl ?_
      obtain ⟨hi2, h⟩ := h
      refine pw_iald dc_Mod_pick_178 hs2 hi2 ?_
      refine pw_icmp_ge (tgt := 186) dc_Mod_pick_179 (by decide) (fun hc => ?_) (fun hc => ?_)
      · have h := ite_t h hc
        refine PW.drop (ls' := [.ref x0, .int x1, .int x2, .int x3, uu]) ⟨Or.inl rfl, Or.inl rfl, Or.inl rfl, Or.inl rfl, Or.inr rfl, trivial⟩ ?_
        exact h
      · have h := ite_f h hc
        refine PW.drop (ls' := [.ref x0, .int x1, uu, .int x3, uu]) ⟨Or.inl rfl, Or.inl rfl, Or.inr rfl, Or.inl rfl, Or.inr rfl, trivial⟩ ?_
        exact h
set_option maxRecDepth 20000 in
theorem e_Mod_pick_182 {d : Nat} {σ : PH} {K : PO → PH → Prop} (x0 : Nat) (x1 : Int32) (x3 : Int32) (h : PW (d + 1) M_Mod_pick 187 [.ref x0, .int x1, uu, .int x3, uu] [.int x3] σ K) : PW (d + 1) M_Mod_pick 182 [.ref x0, .int x1, uu, .int x3, uu] [] σ K := by
  refine pw_iload_n dc_Mod_pick_182 rfl ?_
  refine pw_goto (tgt := 187) dc_Mod_pick_183 (by decide) ?_
  exact h
set_option maxRecDepth 20000 in
theorem e_Mod_pick_186 {d : Nat} {σ : PH} {K : PO → PH → Prop} (x0 : Nat) (x1 : Int32) (x2 : Int32) (x3 : Int32) (h : PW (d + 1) M_Mod_pick 187 [.ref x0, .int x1, uu, .int x3, uu] [.int x2] σ K) : PW (d + 1) M_Mod_pick 186 [.ref x0, .int x1, .int x2, .int x3, uu] [] σ K := by
  refine pw_iload_n dc_Mod_pick_186 rfl ?_
  refine PW.drop (ls' := [.ref x0, .int x1, uu, .int x3, uu]) ⟨Or.inl rfl, Or.inl rfl, Or.inr rfl, Or.inl rfl, Or.inl rfl, trivial⟩ ?_
  exact h
set_option maxRecDepth 20000 in
theorem e_Mod_pick_187 {d : Nat} {σ : PH} {K : PO → PH → Prop} (x0 : Nat) (x1 : Int32) (x3 : Int32) (y0 : Int32) (h : PW (d + 1) M_Mod_pick 128 [.ref x0, .int x1, .int y0, .int (x3 + 1), uu] [] σ K) : PW (d + 1) M_Mod_pick 187 [.ref x0, .int x1, uu, .int x3, uu] [.int y0] σ K := by
  refine pw_istore_n dc_Mod_pick_187 (by decide) ?_
  refine pw_iincv (v := 1) dc_Mod_pick_188 (by decide) rfl (by decide) ?_
  refine pw_goto (tgt := 128) dc_Mod_pick_191 (by decide) ?_
  exact h
theorem dc_Mod_sent_0 : decode M_Mod_sent.2.1 0 = .ok (.aload_n 0, 1) := by decide +kernel
theorem dc_Mod_sent_1 : decode M_Mod_sent.2.1 1 = .ok (.getfield 85, 3) := by decide +kernel
theorem dc_Mod_sent_4 : decode M_Mod_sent.2.1 4 = .ok (.iload_n 1, 1) := by decide +kernel
theorem dc_Mod_sent_5 : decode M_Mod_sent.2.1 5 = .ok (.iaload, 1) := by decide +kernel
theorem dc_Mod_sent_6 : decode M_Mod_sent.2.1 6 = .ok (.istore_n 2, 1) := by decide +kernel
theorem dc_Mod_sent_7 : decode M_Mod_sent.2.1 7 = .ok (.aload_n 0, 1) := by decide +kernel
theorem dc_Mod_sent_8 : decode M_Mod_sent.2.1 8 = .ok (.getfield 85, 3) := by decide +kernel
theorem dc_Mod_sent_11 : decode M_Mod_sent.2.1 11 = .ok (.iload_n 1, 1) := by decide +kernel
theorem dc_Mod_sent_12 : decode M_Mod_sent.2.1 12 = .ok (.iconst 0, 1) := by decide +kernel
theorem dc_Mod_sent_13 : decode M_Mod_sent.2.1 13 = .ok (.iastore, 1) := by decide +kernel
theorem dc_Mod_sent_14 : decode M_Mod_sent.2.1 14 = .ok (.aload_n 0, 1) := by decide +kernel
theorem dc_Mod_sent_15 : decode M_Mod_sent.2.1 15 = .ok (.getfield 91, 3) := by decide +kernel
theorem dc_Mod_sent_18 : decode M_Mod_sent.2.1 18 = .ok (.iload_n 1, 1) := by decide +kernel
theorem dc_Mod_sent_19 : decode M_Mod_sent.2.1 19 = .ok (.baload, 1) := by decide +kernel
theorem dc_Mod_sent_20 : decode M_Mod_sent.2.1 20 = .ok (.ifCond .eq 4, 3) := by decide +kernel
theorem dc_Mod_sent_23 : decode M_Mod_sent.2.1 23 = .ok (.return_, 1) := by decide +kernel
theorem dc_Mod_sent_24 : decode M_Mod_sent.2.1 24 = .ok (.aload_n 0, 1) := by decide +kernel
theorem dc_Mod_sent_25 : decode M_Mod_sent.2.1 25 = .ok (.getfield 67, 3) := by decide +kernel
theorem dc_Mod_sent_28 : decode M_Mod_sent.2.1 28 = .ok (.bipush 8, 2) := by decide +kernel
theorem dc_Mod_sent_30 : decode M_Mod_sent.2.1 30 = .ok (.iload_n 2, 1) := by decide +kernel
theorem dc_Mod_sent_31 : decode M_Mod_sent.2.1 31 = .ok (.imul, 1) := by decide +kernel
theorem dc_Mod_sent_32 : decode M_Mod_sent.2.1 32 = .ok (.iload_n 1, 1) := by decide +kernel
theorem dc_Mod_sent_33 : decode M_Mod_sent.2.1 33 = .ok (.iadd, 1) := by decide +kernel
theorem dc_Mod_sent_34 : decode M_Mod_sent.2.1 34 = .ok (.iconst 3, 1) := by decide +kernel
theorem dc_Mod_sent_35 : decode M_Mod_sent.2.1 35 = .ok (.iastore, 1) := by decide +kernel
theorem dc_Mod_sent_36 : decode M_Mod_sent.2.1 36 = .ok (.aload_n 0, 1) := by decide +kernel
theorem dc_Mod_sent_37 : decode M_Mod_sent.2.1 37 = .ok (.getfield 70, 3) := by decide +kernel
theorem dc_Mod_sent_40 : decode M_Mod_sent.2.1 40 = .ok (.bipush 8, 2) := by decide +kernel
theorem dc_Mod_sent_42 : decode M_Mod_sent.2.1 42 = .ok (.iload_n 2, 1) := by decide +kernel
theorem dc_Mod_sent_43 : decode M_Mod_sent.2.1 43 = .ok (.imul, 1) := by decide +kernel
theorem dc_Mod_sent_44 : decode M_Mod_sent.2.1 44 = .ok (.iload_n 1, 1) := by decide +kernel
theorem dc_Mod_sent_45 : decode M_Mod_sent.2.1 45 = .ok (.iadd, 1) := by decide +kernel
theorem dc_Mod_sent_46 : decode M_Mod_sent.2.1 46 = .ok (.aload_n 0, 1) := by decide +kernel
theorem dc_Mod_sent_47 : decode M_Mod_sent.2.1 47 = .ok (.getfield 88, 3) := by decide +kernel
theorem dc_Mod_sent_50 : decode M_Mod_sent.2.1 50 = .ok (.iload_n 1, 1) := by decide +kernel
theorem dc_Mod_sent_51 : decode M_Mod_sent.2.1 51 = .ok (.iaload, 1) := by decide +kernel
theorem dc_Mod_sent_52 : decode M_Mod_sent.2.1 52 = .ok (.iastore, 1) := by decide +kernel
theorem dc_Mod_sent_53 : decode M_Mod_sent.2.1 53 = .ok (.aload_n 0, 1) := by decide +kernel
theorem dc_Mod_sent_54 : decode M_Mod_sent.2.1 54 = .ok (.getfield 97, 3) := by decide +kernel
theorem dc_Mod_sent_57 : decode M_Mod_sent.2.1 57 = .ok (.iload_n 1, 1) := by decide +kernel
theorem dc_Mod_sent_58 : decode M_Mod_sent.2.1 58 = .ok (.iaload, 1) := by decide +kernel
theorem dc_Mod_sent_59 : decode M_Mod_sent.2.1 59 = .ok (.istore_n 3, 1) := by decide +kernel
theorem dc_Mod_sent_60 : decode M_Mod_sent.2.1 60 = .ok (.iload_n 3, 1) := by decide +kernel
theorem dc_Mod_sent_61 : decode M_Mod_sent.2.1 61 = .ok (.iconst 3, 1) := by decide +kernel
theorem dc_Mod_sent_62 : decode M_Mod_sent.2.1 62 = .ok (.if_icmp .ne 68, 3) := by decide +kernel
theorem dc_Mod_sent_65 : decode M_Mod_sent.2.1 65 = .ok (.iconst 0, 1) := by decide +kernel
theorem dc_Mod_sent_66 : decode M_Mod_sent.2.1 66 = .ok (.istore 4, 2) := by decide +kernel
theorem dc_Mod_sent_68 : decode M_Mod_sent.2.1 68 = .ok (.iload 4, 2) := by decide +kernel
theorem dc_Mod_sent_70 : decode M_Mod_sent.2.1 70 = .ok (.iconst 2, 1) := by decide +kernel
theorem dc_Mod_sent_71 : decode M_Mod_sent.2.1 71 = .ok (.if_icmp .ge 57, 3) := by decide +kernel
theorem dc_Mod_sent_74 : decode M_Mod_sent.2.1 74 = .ok (.aload_n 0, 1) := by decide +kernel
theorem dc_Mod_sent_75 : decode M_Mod_sent.2.1 75 = .ok (.getfield 100, 3) := by decide +kernel
theorem dc_Mod_sent_78 : decode M_Mod_sent.2.1 78 = .ok (.iconst 3, 1) := by decide +kernel
theorem dc_Mod_sent_79 : decode M_Mod_sent.2.1 79 = .ok (.iload_n 1, 1) := by decide +kernel
theorem dc_Mod_sent_80 : decode M_Mod_sent.2.1 80 = .ok (.imul, 1) := by decide +kernel
theorem dc_Mod_sent_81 : decode M_Mod_sent.2.1 81 = .ok (.iload 4, 2) := by decide +kernel
theorem dc_Mod_sent_83 : decode M_Mod_sent.2.1 83 = .ok (.iadd, 1) := by decide +kernel
theorem dc_Mod_sent_84 : decode M_Mod_sent.2.1 84 = .ok (.aload_n 0, 1) := by decide +kernel
theorem dc_Mod_sent_85 : decode M_Mod_sent.2.1 85 = .ok (.getfield 100, 3) := by decide +kernel
theorem dc_Mod_sent_88 : decode M_Mod_sent.2.1 88 = .ok (.iconst 3, 1) := by decide +kernel
theorem dc_Mod_sent_89 : decode M_Mod_sent.2.1 89 = .ok (.iload_n 1, 1) := by decide +kernel
theorem dc_Mod_sent_90 : decode M_Mod_sent.2.1 90 = .ok (.imul, 1) := by decide +kernel
theorem dc_Mod_sent_91 : decode M_Mod_sent.2.1 91 = .ok (.iload 4, 2) := by decide +kernel
theorem dc_Mod_sent_93 : decode M_Mod_sent.2.1 93 = .ok (.iadd, 1) := by decide +kernel
theorem dc_Mod_sent_94 : decode M_Mod_sent.2.1 94 = .ok (.iconst 1, 1) := by decide +kernel
theorem dc_Mod_sent_95 : decode M_Mod_sent.2.1 95 = .ok (.iadd, 1) := by decide +kernel
theorem dc_Mod_sent_96 : decode M_Mod_sent.2.1 96 = .ok (.iaload, 1) := by decide +kernel
theorem dc_Mod_sent_97 : decode M_Mod_sent.2.1 97 = .ok (.iastore, 1) := by decide +kernel
theorem dc_Mod_sent_98 : decode M_Mod_sent.2.1 98 = .ok (.aload_n 0, 1) := by decide +kernel
theorem dc_Mod_sent_99 : decode M_Mod_sent.2.1 99 = .ok (.getfield 103, 3) := by decide +kernel
theorem dc_Mod_sent_102 : decode M_Mod_sent.2.1 102 = .ok (.iconst 3, 1) := by decide +kernel
theorem dc_Mod_sent_103 : decode M_Mod_sent.2.1 103 = .ok (.iload_n 1, 1) := by decide +kernel
theorem dc_Mod_sent_104 : decode M_Mod_sent.2.1 104 = .ok (.imul, 1) := by decide +kernel
theorem dc_Mod_sent_105 : decode M_Mod_sent.2.1 105 = .ok (.iload 4, 2) := by decide +kernel
theorem dc_Mod_sent_107 : decode M_Mod_sent.2.1 107 = .ok (.iadd, 1) := by decide +kernel
theorem dc_Mod_sent_108 : decode M_Mod_sent.2.1 108 = .ok (.aload_n 0, 1) := by decide +kernel
theorem dc_Mod_sent_109 : decode M_Mod_sent.2.1 109 = .ok (.getfield 103, 3) := by decide +kernel
theorem dc_Mod_sent_112 : decode M_Mod_sent.2.1 112 = .ok (.iconst 3, 1) := by decide +kernel
theorem dc_Mod_sent_113 : decode M_Mod_sent.2.1 113 = .ok (.iload_n 1, 1) := by decide +kernel
theorem dc_Mod_sent_114 : decode M_Mod_sent.2.1 114 = .ok (.imul, 1) := by decide +kernel
theorem dc_Mod_sent_115 : decode M_Mod_sent.2.1 115 = .ok (.iload 4, 2) := by decide +kernel
theorem dc_Mod_sent_117 : decode M_Mod_sent.2.1 117 = .ok (.iadd, 1) := by decide +kernel
theorem dc_Mod_sent_118 : decode M_Mod_sent.2.1 118 = .ok (.iconst 1, 1) := by decide +kernel
theorem dc_Mod_sent_119 : decode M_Mod_sent.2.1 119 = .ok (.iadd, 1) := by decide +kernel
theorem dc_Mod_sent_120 : decode M_Mod_sent.2.1 120 = .ok (.iaload, 1) := by decide +kernel
theorem dc_Mod_sent_121 : decode M_Mod_sent.2.1 121 = .ok (.iastore, 1) := by decide +kernel
theorem dc_Mod_sent_122 : decode M_Mod_sent.2.1 122 = .ok (.iinc 4 1, 3) := by decide +kernel
theorem dc_Mod_sent_125 : decode M_Mod_sent.2.1 125 = .ok (.goto (-57), 3) := by decide +kernel
theorem dc_Mod_sent_128 : decode M_Mod_sent.2.1 128 = .ok (.iconst 2, 1) := by decide +kernel
theorem dc_Mod_sent_129 : decode M_Mod_sent.2.1 129 = .ok (.istore_n 3, 1) := by decide +kernel
theorem dc_Mod_sent_130 : decode M_Mod_sent.2.1 130 = .ok (.aload_n 0, 1) := by decide +kernel
theorem dc_Mod_sent_131 : decode M_Mod_sent.2.1 131 = .ok (.getfield 100, 3) := by decide +kernel
theorem dc_Mod_sent_134 : decode M_Mod_sent.2.1 134 = .ok (.iconst 3, 1) := by decide +kernel
theorem dc_Mod_sent_135 : decode M_Mod_sent.2.1 135 = .ok (.iload_n 1, 1) := by decide +kernel
theorem dc_Mod_sent_136 : decode M_Mod_sent.2.1 136 = .ok (.imul, 1) := by decide +kernel
theorem dc_Mod_sent_137 : decode M_Mod_sent.2.1 137 = .ok (.iload_n 3, 1) := by decide +kernel
theorem dc_Mod_sent_138 : decode M_Mod_sent.2.1 138 = .ok (.iadd, 1) := by decide +kernel
theorem dc_Mod_sent_139 : decode M_Mod_sent.2.1 139 = .ok (.iload_n 2, 1) := by decide +kernel
theorem dc_Mod_sent_140 : decode M_Mod_sent.2.1 140 = .ok (.iastore, 1) := by decide +kernel
theorem dc_Mod_sent_141 : decode M_Mod_sent.2.1 141 = .ok (.aload_n 0, 1) := by decide +kernel
theorem dc_Mod_sent_142 : decode M_Mod_sent.2.1 142 = .ok (.getfield 103, 3) := by decide +kernel
theorem dc_Mod_sent_145 : decode M_Mod_sent.2.1 145 = .ok (.iconst 3, 1) := by decide +kernel
theorem dc_Mod_sent_146 : decode M_Mod_sent.2.1 146 = .ok (.iload_n 1, 1) := by decide +kernel
theorem dc_Mod_sent_147 : decode M_Mod_sent.2.1 147 = .ok (.imul, 1) := by decide +kernel
theorem dc_Mod_sent_148 : decode M_Mod_sent.2.1 148 = .ok (.iload_n 3, 1) := by decide +kernel
theorem dc_Mod_sent_149 : decode M_Mod_sent.2.1 149 = .ok (.iadd, 1) := by decide +kernel
theorem dc_Mod_sent_150 : decode M_Mod_sent.2.1 150 = .ok (.aload_n 0, 1) := by decide +kernel
theorem dc_Mod_sent_151 : decode M_Mod_sent.2.1 151 = .ok (.getfield 88, 3) := by decide +kernel
theorem dc_Mod_sent_154 : decode M_Mod_sent.2.1 154 = .ok (.iload_n 1, 1) := by decide +kernel
theorem dc_Mod_sent_155 : decode M_Mod_sent.2.1 155 = .ok (.iaload, 1) := by decide +kernel
theorem dc_Mod_sent_156 : decode M_Mod_sent.2.1 156 = .ok (.iastore, 1) := by decide +kernel
theorem dc_Mod_sent_157 : decode M_Mod_sent.2.1 157 = .ok (.aload_n 0, 1) := by decide +kernel
theorem dc_Mod_sent_158 : decode M_Mod_sent.2.1 158 = .ok (.getfield 97, 3) := by decide +kernel
theorem dc_Mod_sent_161 : decode M_Mod_sent.2.1 161 = .ok (.iload_n 1, 1) := by decide +kernel
theorem dc_Mod_sent_162 : decode M_Mod_sent.2.1 162 = .ok (.iload_n 3, 1) := by decide +kernel
theorem dc_Mod_sent_163 : decode M_Mod_sent.2.1 163 = .ok (.iconst 1, 1) := by decide +kernel
theorem dc_Mod_sent_164 : decode M_Mod_sent.2.1 164 = .ok (.iadd, 1) := by decide +kernel
theorem dc_Mod_sent_165 : decode M_Mod_sent.2.1 165 = .ok (.iastore, 1) := by decide +kernel
theorem dc_Mod_sent_166 : decode M_Mod_sent.2.1 166 = .ok (.return_, 1) := by decide +kernel
set_option maxRecDepth 20000 in
theorem e_Mod_sent_0 {d : Nat} {σ : PH} {K : PO → PH → Prop} (x0 : Nat) (x1 : Int32) (h : sh σ x0 = (1, 11) ∧ (∃ b1 : Nat, gR σ 732 x0 = some b1 ∧ (∃ n1 : Nat, sh σ b1 = (2, n1) ∧ vp_in x1 n1 ∧ vp_in x1 n1 ∧ (∀ σ1 : PH, σ1 = uI σ b1 (ix x1) 0 → sh σ1 x0 = (1, 11) ∧ (∃ b2 : Nat, gR σ1 734 x0 = some b2 ∧ (∃ n2 : Nat, sh σ1 b2 = (4, n2) ∧ vp_in x1 n2 ∧ (if (eI σ1 b2 (ix x1)) = 0 then (∃ b3 : Nat, gR σ1 725 x0 = some b3 ∧ (∃ n3 : Nat, sh σ1 b3 = (2, n3) ∧ vp_in ((8 * (eI σ b1 (ix x1))) + x1) n3 ∧ (∀ σ2 : PH, σ2 = uI σ1 b3 (ix ((8 * (eI σ b1 (ix x1))) + x1)) 3 → sh σ2 x0 = (1, 11) ∧ (∃ b4 : Nat, gR σ2 726 x0 = some b4 ∧ (∃ b5 : Nat, gR σ2 733 x0 = some b5 ∧ (∃ n4 : Nat, sh σ2 b5 = (2, n4) ∧ vp_in x1 n4 ∧ (∃ n5 : Nat, sh σ2 b4 = (2, n5) ∧ vp_in ((8 * (eI σ b1 (ix x1))) + x1) n5 ∧ (∀ σ3 : PH, σ3 = uI σ2 b4 (ix ((8 * (eI σ b1 (ix x1))) + x1)) (eI σ2 b5 (ix x1)) → sh σ3 x0 = (1, 11) ∧ (∃ b6 : Nat, gR σ3 736 x0 = some b6 ∧ (∃ n6 : Nat, sh σ3 b6 = (2, n6) ∧ vp_in x1 n6 ∧ (if (eI σ3 b6 (ix x1)) = 3 then PW d M_Mod_sent 68 [.ref x0, .int x1, .int (eI σ b1 (ix x1)), uu, .int 0] [] σ3 K else PW d M_Mod_sent 130 [.ref x0, .int x1, .int (eI σ b1 (ix x1)), .int (eI σ3 b6 (ix x1)), uu] [] σ3 K))))))))))) else K (.inl none) σ1))))))) : PW d M_Mod_sent 0 [.ref x0, .int x1, uu, uu, uu] [] σ K := by
  refine pw_aload_n dc_Mod_sent_0 rfl rfl ?_
  obtain ⟨hs1, h⟩ := h
  refine pw_getR (c := 11) (k := 28) (f := 732) dc_Mod_sent_1 fl_Mod_85 rfl rfl hs1 ?_
  obtain ⟨b1, hb1, h⟩ := h
  refine PW.top (v' := .ref b1) (congrArg va_rf hb1) ?_
  refine pw_iload_n dc_Mod_sent_4 rfl ?_
  obtain ⟨n1, hs2, h⟩ := h
  obtain ⟨hi1, h⟩ := h
  refine pw_iald dc_Mod_sent_5 hs2 hi1 ?_
  refine pw_istore_n dc_Mod_sent_6 (by decide) ?_
  refine pw_aload_n dc_Mod_sent_7 rfl rfl ?_
  refine pw_getR (c := 11) (k := 28) (f := 732) dc_Mod_sent_8 fl_Mod_85 rfl rfl hs1 ?_
  refine PW.top (v' := .ref b1) (congrArg va_rf hb1) ?_
  refine pw_iload_n dc_Mod_sent_11 rfl ?_
  refine pw_iconst (v := 0) dc_Mod_sent_12 (by decide) ?_
  obtain ⟨hi2, h⟩ := h
  have h := h _ rfl
  refine pw_iast dc_Mod_sent_13 hs2 hi2 ?_
  refine pw_aload_n dc_Mod_sent_14 rfl rfl ?_
  obtain ⟨hs3, h⟩ := h
  refine pw_getR (c := 11) (k := 30) (f := 734) dc_Mod_sent_15 fl_Mod_91 rfl rfl hs3 ?_
  obtain ⟨b2, hb2, h⟩ := h
  refine PW.top (v' := .ref b2) (congrArg va_rf hb2) ?_
  refine pw_iload_n dc_Mod_sent_18 rfl ?_
  obtain ⟨n2, hs4, h⟩ := h
  obtain ⟨hi3, h⟩ := h
  refine pw_zald dc_Mod_sent_19 hs4 hi3 ?_
  refine pw_if_eq (tgt := 24) dc_Mod_sent_20 (by decide) (fun hc => ?_) (fun hc => ?_)
  · have h := ite_t h hc
    refine pw_aload_n dc_Mod_sent_24 rfl rfl ?_
    refine pw_getR (c := 11) (k := 21) (f := 725) dc_Mod_sent_25 fl_Mod_67 rfl rfl hs3 ?_
    obtain ⟨b3, hb3, h⟩ := h
    refine PW.top (v' := .ref b3) (congrArg va_rf hb3) ?_
    refine pw_bipush (v := 8) dc_Mod_sent_28 (by decide) ?_
    refine pw_iload_n dc_Mod_sent_30 rfl ?_
    refine pw_imul dc_Mod_sent_31 ?_
    refine pw_iload_n dc_Mod_sent_32 rfl ?_
    refine pw_iadd dc_Mod_sent_33 ?_
    refine pw_iconst (v := 3) dc_Mod_sent_34 (by decide) ?_
    obtain ⟨n3, hs5, h⟩ := h
    obtain ⟨hi4, h⟩ := h
    have h := h _ rfl
    refine pw_iast dc_Mod_sent_35 hs5 hi4 ?_
    refine pw_aload_n dc_Mod_sent_36 rfl rfl ?_
    obtain ⟨hs6, h⟩ := h
    refine pw_getR (c := 11) (k := 22) (f := 726) dc_Mod_sent_37 fl_Mod_70 rfl rfl hs6 ?_
    obtain ⟨b4, hb4, h⟩ := h
    refine PW.top (v' := .ref b4) (congrArg va_rf hb4) ?_
    refine pw_bipush (v := 8) dc_Mod_sent_40 (by decide) ?_
    refine pw_iload_n dc_Mod_sent_42 rfl ?_
    refine pw_imul dc_Mod_sent_43 ?_
    refine pw_iload_n dc_Mod_sent_44 rfl ?_
    refine pw_iadd dc_Mod_sent_45 ?_
    refine pw_aload_n dc_Mod_sent_46 rfl rfl ?_
    refine pw_getR (c := 11) (k := 29) (f := 733) dc_Mod_sent_47 fl_Mod_88 rfl rfl hs6 ?_
    obtain ⟨b5, hb5, h⟩ := h
    refine PW.top (v' := .ref b5) (congrArg va_rf hb5) ?_
    refine pw_iload_n dc_Mod_sent_50 rfl ?_
    obtain ⟨n4, hs7, h⟩ := h
    obtain ⟨hi5, h⟩ := h
    refine pw_iald dc_Mod_sent_51 hs7 hi5 ?_
    obtain ⟨n5, hs8, h⟩ := h
    obtain ⟨hi6, h⟩ := h
    have h := h _ rfl
    refine pw_iast dc_Mod_sent_52 hs8 hi6 ?_
    refine pw_aload_n dc_Mod_sent_53 rfl rfl ?_
    obtain ⟨hs9, h⟩ := h
    refine pw_getR (c := 11) (k := 32) (f := 736) dc_Mod_sent_54 fl_Mod_97 rfl rfl hs9 ?_
    obtain ⟨b6, hb6, h⟩ := h
    refine PW.top (v' := .ref b6) (congrArg va_rf hb6) ?_
    refine pw_iload_n dc_Mod_sent_57 rfl ?_
    obtain ⟨n6, hs10, h⟩ := h
    obtain ⟨hi7, h⟩ := h
    refine pw_iald dc_Mod_sent_58 hs10 hi7 ?_
    refine pw_istore_n dc_Mod_sent_59 (by decide) ?_
    refine pw_iload_n dc_Mod_sent_60 rfl ?_
    refine pw_iconst (v := 3) dc_Mod_sent_61 (by decide) ?_
    refine pw_icmp_ne (tgt := 130) dc_Mod_sent_62 (by decide) (fun hc => ?_) (fun hc => ?_)
    · have h := ite_f h hc
      exact h
    · have h := ite_t h hc
      refine pw_iconst (v := 0) dc_Mod_sent_65 (by decide) ?_
      refine pw_istore dc_Mod_sent_66 (by decide) ?_
      refine PW.drop (ls' := [.ref x0, .int x1, .int (eI σ b1 (ix x1)), uu, .int 0]) ⟨Or.inl rfl, Or.inl rfl, Or.inl rfl, Or.inr rfl, Or.inl rfl, trivial⟩ ?_
      exact h
  · have h := ite_f h hc
    exact pw_vret dc_Mod_sent_23 rfl h
set_option maxRecDepth 20000 in
theorem e_Mod_sent_68 {d : Nat} {σ : PH} {K : PO → PH → Prop} (x0 : Nat) (x1 : Int32) (x2 : Int32) (x4 : Int32) (h : (if 2 ≤ x4 then PW d M_Mod_sent 130 [.ref x0, .int x1, .int x2, .int 2, uu] [] σ K else sh σ x0 = (1, 11) ∧ (∃ b1 : Nat, gR σ 737 x0 = some b1 ∧ (∃ n1 : Nat, sh σ b1 = (2, n1) ∧ vp_in (((3 * x1) + x4) + 1) n1 ∧ vp_in ((3 * x1) + x4) n1 ∧ (∀ σ1 : PH, σ1 = uI σ b1 (ix ((3 * x1) + x4)) (eI σ b1 (ix (((3 * x1) + x4) + 1))) → sh σ1 x0 = (1, 11) ∧ (∃ b2 : Nat, gR σ1 738 x0 = some b2 ∧ (∃ n2 : Nat, sh σ1 b2 = (2, n2) ∧ vp_in (((3 * x1) + x4) + 1) n2 ∧ vp_in ((3 * x1) + x4) n2 ∧ (∀ σ2 : PH, σ2 = uI σ1 b2 (ix ((3 * x1) + x4)) (eI σ1 b2 (ix (((3 * x1) + x4) + 1))) → PW d M_Mod_sent 68 [.ref x0, .int x1, .int x2, uu, .int (x4 + 1)] [] σ2 K)))))))) : PW d M_Mod_sent 68 [.ref x0, .int x1, .int x2, uu, .int x4] [] σ K := by
  refine pw_iload dc_Mod_sent_68 rfl ?_
  refine pw_iconst (v := 2) dc_Mod_sent_70 (by decide) ?_
  refine pw_icmp_ge (tgt := 128) dc_Mod_sent_71 (by decide) (fun hc => ?_) (fun hc => ?_)
  · have h := ite_t h hc
    refine pw_iconst (v := 2) dc_Mod_sent_128 (by decide) ?_
    refine pw_istore_n dc_Mod_sent_129 (by decide) ?_
    refine PW.drop (ls' := [.ref x0, .int x1, .int x2, .int 2, uu]) ⟨Or.inl rfl, Or.inl rfl, Or.inl rfl, Or.inl rfl, Or.inr rfl, trivial⟩ ?_
    exact h
  · have h := ite_f h hc
    refine pw_aload_n dc_Mod_sent_74 rfl rfl ?_
    obtain ⟨hs1, h⟩ := h
    refine pw_getR (c := 11) (k := 33) (f := 737) dc_Mod_sent_75 fl_Mod_100 rfl rfl hs1 ?_
    obtain ⟨b1, hb1, h⟩ := h
    refine PW.top (v' := .ref b1) (congrArg va_rf hb1) ?_
    refine pw_iconst (v := 3) dc_Mod_sent_78 (by decide) ?_
    refine pw_iload_n dc_Mod_sent_79 rfl ?_
    refine pw_imul dc_Mod_sent_80 ?_
    refine pw_iload dc_Mod_sent_81 rfl ?_
    refine pw_iadd dc_Mod_sent_83 ?_
    refine pw_aload_n dc_Mod_sent_84 rfl rfl ?_
    refine pw_getR (c := 11) (k := 33) (f := 737) dc_Mod_sent_85 fl_Mod_100 rfl rfl hs1 ?_
    refine PW.top (v' := .ref b1) (congrArg va_rf hb1) ?_
    refine pw_iconst (v := 3) dc_Mod_sent_88 (by decide) ?_
    refine pw_iload_n dc_Mod_sent_89 rfl ?_
    refine pw_imul dc_Mod_sent_90 ?_
    refine pw_iload dc_Mod_sent_91 rfl ?_
    refine pw_iadd dc_Mod_sent_93 ?_
    refine pw_iconst (v := 1) dc_Mod_sent_94 (by decide) ?_
    refine pw_iadd dc_Mod_sent_95 ?_
    obtain ⟨n1, hs2, h⟩ := h
    obtain ⟨hi1, h⟩ := h
    refine pw_iald dc_Mod_sent_96 hs2 hi1 ?_
    obtain ⟨hi2, h⟩ := h
    have h := h _ rfl
    refine pw_iast dc_Mod_sent_97 hs2 hi2 ?_
    refine pw_aload_n dc_Mod_sent_98 rfl rfl ?_
    obtain ⟨hs3, h⟩ := h
    refine pw_getR (c := 11) (k := 34) (f := 738) dc_Mod_sent_99 fl_Mod_103 rfl rfl hs3 ?_
    obtain ⟨b2, hb2, h⟩ := h
    refine PW.top (v' := .ref b2) (congrArg va_rf hb2) ?_
    refine pw_iconst (v := 3) dc_Mod_sent_102 (by decide) ?_
    refine pw_iload_n dc_Mod_sent_103 rfl ?_
    refine pw_imul dc_Mod_sent_104 ?_
    refine pw_iload dc_Mod_sent_105 rfl ?_
    refine pw_iadd dc_Mod_sent_107 ?_
    refine pw_aload_n dc_Mod_sent_108 rfl rfl ?_
    refine pw_getR (c := 11) (k := 34) (f := 738) dc_Mod_sent_109 fl_Mod_103 rfl rfl hs3 ?_
    refine PW.top (v' := .ref b2) (congrArg va_rf hb2) ?_
    refine pw_iconst (v := 3) dc_Mod_sent_112 (by decide) ?_
    refine pw_iload_n dc_Mod_sent_113 rfl ?_
    refine pw_imul dc_Mod_sent_114 ?_
    refine pw_iload dc_Mod_sent_115 rfl ?_
    refine pw_iadd dc_Mod_sent_117 ?_
    refine pw_iconst (v := 1) dc_Mod_sent_118 (by decide) ?_
    refine pw_iadd dc_Mod_sent_119 ?_
    obtain ⟨n2, hs4, h⟩ := h
    obtain ⟨hi3, h⟩ := h
    refine pw_iald dc_Mod_sent_120 hs4 hi3 ?_
    obtain ⟨hi4, h⟩ := h
    have h := h _ rfl
    refine pw_iast dc_Mod_sent_121 hs4 hi4 ?_
    refine pw_iincv (v := 1) dc_Mod_sent_122 (by decide) rfl (by decide) ?_
    refine pw_goto (tgt := 68) dc_Mod_sent_125 (by decide) ?_
    exact h
set_option maxRecDepth 20000 in
theorem e_Mod_sent_130 {d : Nat} {σ : PH} {K : PO → PH → Prop} (x0 : Nat) (x1 : Int32) (x2 : Int32) (x3 : Int32) (h : sh σ x0 = (1, 11) ∧ (∃ b1 : Nat, gR σ 737 x0 = some b1 ∧ (∃ n1 : Nat, sh σ b1 = (2, n1) ∧ vp_in ((3 * x1) + x3) n1 ∧ (∀ σ1 : PH, σ1 = uI σ b1 (ix ((3 * x1) + x3)) x2 → sh σ1 x0 = (1, 11) ∧ (∃ b2 : Nat, gR σ1 738 x0 = some b2 ∧ (∃ b3 : Nat, gR σ1 733 x0 = some b3 ∧ (∃ n2 : Nat, sh σ1 b3 = (2, n2) ∧ vp_in x1 n2 ∧ (∃ n3 : Nat, sh σ1 b2 = (2, n3) ∧ vp_in ((3 * x1) + x3) n3 ∧ (∀ σ2 : PH, σ2 = uI σ1 b2 (ix ((3 * x1) + x3)) (eI σ1 b3 (ix x1)) → sh σ2 x0 = (1, 11) ∧ (∃ b4 : Nat, gR σ2 736 x0 = some b4 ∧ (∃ n4 : Nat, sh σ2 b4 = (2, n4) ∧ vp_in x1 n4 ∧ (∀ σ3 : PH, σ3 = uI σ2 b4 (ix x1) (x3 + 1) → K (.inl none) σ3)))))))))))) : PW d M_Mod_sent 130 [.ref x0, .int x1, .int x2, .int x3, uu] [] σ K := by
  refine pw_aload_n dc_Mod_sent_130 rfl rfl ?_
  obtain ⟨hs1, h⟩ := h
  refine pw_getR (c := 11) (k := 33) (f := 737) dc_Mod_sent_131 fl_Mod_100 rfl rfl hs1 ?_
  obtain ⟨b1, hb1, h⟩ := h
  refine PW.top (v' := .ref b1) (congrArg va_rf hb1) ?_
  refine pw_iconst (v := 3) dc_Mod_sent_134 (by decide) ?_
  refine pw_iload_n dc_Mod_sent_135 rfl ?_
  refine pw_imul dc_Mod_sent_136 ?_
  refine pw_iload_n dc_Mod_sent_137 rfl ?_
  refine pw_iadd dc_Mod_sent_138 ?_
  refine pw_iload_n dc_Mod_sent_139 rfl ?_
  obtain ⟨n1, hs2, h⟩ := h
  obtain ⟨hi1, h⟩ := h
  have h := h _ rfl
  refine pw_iast dc_Mod_sent_140 hs2 hi1 ?_
  refine pw_aload_n dc_Mod_sent_141 rfl rfl ?_
  obtain ⟨hs3, h⟩ := h
  refine pw_getR (c := 11) (k := 34) (f := 738) dc_Mod_sent_142 fl_Mod_103 rfl rfl hs3 ?_
  obtain ⟨b2, hb2, h⟩ := h
  refine PW.top (v' := .ref b2) (congrArg va_rf hb2) ?_
  refine pw_iconst (v := 3) dc_Mod_sent_145 (by decide) ?_
  refine pw_iload_n dc_Mod_sent_146 rfl ?_
  refine pw_imul dc_Mod_sent_147 ?_
  refine pw_iload_n dc_Mod_sent_148 rfl ?_
  refine pw_iadd dc_Mod_sent_149 ?_
  refine pw_aload_n dc_Mod_sent_150 rfl rfl ?_
  refine pw_getR (c := 11) (k := 29) (f := 733) dc_Mod_sent_151 fl_Mod_88 rfl rfl hs3 ?_
  obtain ⟨b3, hb3, h⟩ := h
  refine PW.top (v' := .ref b3) (congrArg va_rf hb3) ?_
  refine pw_iload_n dc_Mod_sent_154 rfl ?_
  obtain ⟨n2, hs4, h⟩ := h
  obtain ⟨hi2, h⟩ := h
  refine pw_iald dc_Mod_sent_155 hs4 hi2 ?_
  obtain ⟨n3, hs5, h⟩ := h
  obtain ⟨hi3, h⟩ := h
  have h := h _ rfl
  refine pw_iast dc_Mod_sent_156 hs5 hi3 ?_
  refine pw_aload_n dc_Mod_sent_157 rfl rfl ?_
  obtain ⟨hs6, h⟩ := h
  refine pw_getR (c := 11) (k := 32) (f := 736) dc_Mod_sent_158 fl_Mod_97 rfl rfl hs6 ?_
  obtain ⟨b4, hb4, h⟩ := h
  refine PW.top (v' := .ref b4) (congrArg va_rf hb4) ?_
  refine pw_iload_n dc_Mod_sent_161 rfl ?_
  refine pw_iload_n dc_Mod_sent_162 rfl ?_
  refine pw_iconst (v := 1) dc_Mod_sent_163 (by decide) ?_
  refine pw_iadd dc_Mod_sent_164 ?_
  obtain ⟨n4, hs7, h⟩ := h
  obtain ⟨hi4, h⟩ := h
  have h := h _ rfl
  refine pw_iast dc_Mod_sent_165 hs7 hi4 ?_
  exact pw_vret dc_Mod_sent_166 rfl h
theorem dc_Mod_send_0 : decode M_Mod_send.2.1 0 = .ok (.aload_n 0, 1) := by decide +kernel
theorem dc_Mod_send_1 : decode M_Mod_send.2.1 1 = .ok (.iload_n 1, 1) := by decide +kernel
theorem dc_Mod_send_2 : decode M_Mod_send.2.1 2 = .ok (.invokestatic 160, 3) := by decide +kernel
theorem dc_Mod_send_5 : decode M_Mod_send.2.1 5 = .ok (.ifCond .eq 7, 3) := by decide +kernel
theorem dc_Mod_send_8 : decode M_Mod_send.2.1 8 = .ok (.iconst 0, 1) := by decide +kernel
theorem dc_Mod_send_9 : decode M_Mod_send.2.1 9 = .ok (.goto 4, 3) := by decide +kernel
theorem dc_Mod_send_12 : decode M_Mod_send.2.1 12 = .ok (.iconst 1, 1) := by decide +kernel
theorem dc_Mod_send_13 : decode M_Mod_send.2.1 13 = .ok (.invokevirtual 164, 3) := by decide +kernel
theorem dc_Mod_send_16 : decode M_Mod_send.2.1 16 = .ok (.ifCond .eq 5, 3) := by decide +kernel
theorem dc_Mod_send_19 : decode M_Mod_send.2.1 19 = .ok (.iconst 0, 1) := by decide +kernel
theorem dc_Mod_send_20 : decode M_Mod_send.2.1 20 = .ok (.ireturn, 1) := by decide +kernel
theorem dc_Mod_send_21 : decode M_Mod_send.2.1 21 = .ok (.aload_n 0, 1) := by decide +kernel
theorem dc_Mod_send_22 : decode M_Mod_send.2.1 22 = .ok (.getfield 7, 3) := by decide +kernel
theorem dc_Mod_send_25 : decode M_Mod_send.2.1 25 = .ok (.iload_n 1, 1) := by decide +kernel
theorem dc_Mod_send_26 : decode M_Mod_send.2.1 26 = .ok (.baload, 1) := by decide +kernel
theorem dc_Mod_send_27 : decode M_Mod_send.2.1 27 = .ok (.ifCond .eq 5, 3) := by decide +kernel
theorem dc_Mod_send_30 : decode M_Mod_send.2.1 30 = .ok (.iconst (-1), 1) := by decide +kernel
theorem dc_Mod_send_31 : decode M_Mod_send.2.1 31 = .ok (.ireturn, 1) := by decide +kernel
theorem dc_Mod_send_32 : decode M_Mod_send.2.1 32 = .ok (.aload_n 0, 1) := by decide +kernel
theorem dc_Mod_send_33 : decode M_Mod_send.2.1 33 = .ok (.getfield 85, 3) := by decide +kernel
theorem dc_Mod_send_36 : decode M_Mod_send.2.1 36 = .ok (.iload_n 1, 1) := by decide +kernel
theorem dc_Mod_send_37 : decode M_Mod_send.2.1 37 = .ok (.iaload, 1) := by decide +kernel
theorem dc_Mod_send_38 : decode M_Mod_send.2.1 38 = .ok (.ifCond .ne 8, 3) := by decide +kernel
theorem dc_Mod_send_41 : decode M_Mod_send.2.1 41 = .ok (.aload_n 0, 1) := by decide +kernel
theorem dc_Mod_send_42 : decode M_Mod_send.2.1 42 = .ok (.iload_n 1, 1) := by decide +kernel
theorem dc_Mod_send_43 : decode M_Mod_send.2.1 43 = .ok (.invokevirtual 307, 3) := by decide +kernel
theorem dc_Mod_send_46 : decode M_Mod_send.2.1 46 = .ok (.aload_n 0, 1) := by decide +kernel
theorem dc_Mod_send_47 : decode M_Mod_send.2.1 47 = .ok (.getfield 85, 3) := by decide +kernel
theorem dc_Mod_send_50 : decode M_Mod_send.2.1 50 = .ok (.iload_n 1, 1) := by decide +kernel
theorem dc_Mod_send_51 : decode M_Mod_send.2.1 51 = .ok (.iaload, 1) := by decide +kernel
theorem dc_Mod_send_52 : decode M_Mod_send.2.1 52 = .ok (.ifCond .ne 5, 3) := by decide +kernel
theorem dc_Mod_send_55 : decode M_Mod_send.2.1 55 = .ok (.iconst (-1), 1) := by decide +kernel
theorem dc_Mod_send_56 : decode M_Mod_send.2.1 56 = .ok (.ireturn, 1) := by decide +kernel
theorem dc_Mod_send_57 : decode M_Mod_send.2.1 57 = .ok (.aload_n 0, 1) := by decide +kernel
theorem dc_Mod_send_58 : decode M_Mod_send.2.1 58 = .ok (.iload_n 1, 1) := by decide +kernel
theorem dc_Mod_send_59 : decode M_Mod_send.2.1 59 = .ok (.invokevirtual 310, 3) := by decide +kernel
theorem dc_Mod_send_62 : decode M_Mod_send.2.1 62 = .ok (.aload_n 0, 1) := by decide +kernel
theorem dc_Mod_send_63 : decode M_Mod_send.2.1 63 = .ok (.invokevirtual 313, 3) := by decide +kernel
theorem dc_Mod_send_66 : decode M_Mod_send.2.1 66 = .ok (.aload_n 0, 1) := by decide +kernel
theorem dc_Mod_send_67 : decode M_Mod_send.2.1 67 = .ok (.getfield 130, 3) := by decide +kernel
theorem dc_Mod_send_70 : decode M_Mod_send.2.1 70 = .ok (.aload_n 0, 1) := by decide +kernel
theorem dc_Mod_send_71 : decode M_Mod_send.2.1 71 = .ok (.getfield 94, 3) := by decide +kernel
theorem dc_Mod_send_74 : decode M_Mod_send.2.1 74 = .ok (.iload_n 1, 1) := by decide +kernel
theorem dc_Mod_send_75 : decode M_Mod_send.2.1 75 = .ok (.iaload, 1) := by decide +kernel
theorem dc_Mod_send_76 : decode M_Mod_send.2.1 76 = .ok (.iaload, 1) := by decide +kernel
theorem dc_Mod_send_77 : decode M_Mod_send.2.1 77 = .ok (.istore_n 2, 1) := by decide +kernel
theorem dc_Mod_send_78 : decode M_Mod_send.2.1 78 = .ok (.aload_n 0, 1) := by decide +kernel
theorem dc_Mod_send_79 : decode M_Mod_send.2.1 79 = .ok (.getfield 94, 3) := by decide +kernel
theorem dc_Mod_send_82 : decode M_Mod_send.2.1 82 = .ok (.iload_n 1, 1) := by decide +kernel
theorem dc_Mod_send_83 : decode M_Mod_send.2.1 83 = .ok (.dup2, 1) := by decide +kernel
theorem dc_Mod_send_84 : decode M_Mod_send.2.1 84 = .ok (.iaload, 1) := by decide +kernel
theorem dc_Mod_send_85 : decode M_Mod_send.2.1 85 = .ok (.iconst 1, 1) := by decide +kernel
theorem dc_Mod_send_86 : decode M_Mod_send.2.1 86 = .ok (.iadd, 1) := by decide +kernel
theorem dc_Mod_send_87 : decode M_Mod_send.2.1 87 = .ok (.iastore, 1) := by decide +kernel
theorem dc_Mod_send_88 : decode M_Mod_send.2.1 88 = .ok (.aload_n 0, 1) := by decide +kernel
theorem dc_Mod_send_89 : decode M_Mod_send.2.1 89 = .ok (.getfield 94, 3) := by decide +kernel
theorem dc_Mod_send_92 : decode M_Mod_send.2.1 92 = .ok (.iload_n 1, 1) := by decide +kernel
theorem dc_Mod_send_93 : decode M_Mod_send.2.1 93 = .ok (.iaload, 1) := by decide +kernel
theorem dc_Mod_send_94 : decode M_Mod_send.2.1 94 = .ok (.aload_n 0, 1) := by decide +kernel
theorem dc_Mod_send_95 : decode M_Mod_send.2.1 95 = .ok (.getfield 301, 3) := by decide +kernel
theorem dc_Mod_send_98 : decode M_Mod_send.2.1 98 = .ok (.if_icmp .ne 8, 3) := by decide +kernel
theorem dc_Mod_send_101 : decode M_Mod_send.2.1 101 = .ok (.aload_n 0, 1) := by decide +kernel
theorem dc_Mod_send_102 : decode M_Mod_send.2.1 102 = .ok (.iload_n 1, 1) := by decide +kernel
theorem dc_Mod_send_103 : decode M_Mod_send.2.1 103 = .ok (.invokevirtual 316, 3) := by decide +kernel
theorem dc_Mod_send_106 : decode M_Mod_send.2.1 106 = .ok (.iload_n 2, 1) := by decide +kernel
theorem dc_Mod_send_107 : decode M_Mod_send.2.1 107 = .ok (.ireturn, 1) := by decide +kernel
set_option maxRecDepth 20000 in
theorem e_Mod_send_0 {d : Nat} {σ : PH} {K : PO → PH → Prop} (x0 : Nat) (x1 : Int32) (h : PW d M_Mod_isChannel 0 [.int x1] [] σ (kI (fun r1 σ1 => (if r1 = 0 then PW (d + 1) M_Mod_send 13 [.ref x0, .int x1, uu] [.int 1, .ref x0] σ1 K else PW (d + 1) M_Mod_send 13 [.ref x0, .int x1, uu] [.int 0, .ref x0] σ1 K)) K)) : PW (d + 1) M_Mod_send 0 [.ref x0, .int x1, uu] [] σ K := by
  refine pw_aload_n dc_Mod_send_0 rfl rfl ?_
  refine pw_iload_n dc_Mod_send_1 rfl ?_
  refine pw_callS (vs := [.int x1]) (st := [.ref x0]) dc_Mod_send_2 cq_Mod_isChannel (List.mem_of_getElem? (i := 1129) (by decide +kernel)) (List.mem_of_getElem? (i := 1128) (by decide +kernel)) rfl rfl (cat_cons rfl (cat_nil)) (Nat.le_of_ble_eq_true rfl) (PW.mono (kI_kN (fun r1 σ1 h => ?_)) h)
  refine pw_if_eq (tgt := 12) dc_Mod_send_5 (by decide) (fun hc => ?_) (fun hc => ?_)
  · have h := ite_t h hc
    refine pw_iconst (v := 1) dc_Mod_send_12 (by decide) ?_
    exact h
  · have h := ite_f h hc
    refine pw_iconst (v := 0) dc_Mod_send_8 (by decide) ?_
    refine pw_goto (tgt := 13) dc_Mod_send_9 (by decide) ?_
    exact h
set_option maxRecDepth 20000 in
theorem e_Mod_send_13 {d : Nat} {σ : PH} {K : PO → PH → Prop} (x0 : Nat) (x1 : Int32) (y0 : Int32) (y1 : Nat) (h : sh σ y1 = (1, 11) ∧ PW d M_Mod_refused 0 [.ref y1, .int y0] [] σ (kI (fun r1 σ1 => (if r1 = 0 then sh σ1 x0 = (1, 11) ∧ (∃ b1 : Nat, gR σ1 705 x0 = some b1 ∧ (∃ n1 : Nat, sh σ1 b1 = (4, n1) ∧ vp_in x1 n1 ∧ (if (eI σ1 b1 (ix x1)) = 0 then (∃ b2 : Nat, gR σ1 732 x0 = some b2 ∧ (∃ n2 : Nat, sh σ1 b2 = (2, n2) ∧ vp_in x1 n2 ∧ (if (eI σ1 b2 (ix x1)) = 0 then PW d M_Mod_pick 0 [.ref x0, .int x1, uu, uu, uu] [] σ1 (kV (fun σ2 => PW (d + 1) M_Mod_send 46 [.ref x0, .int x1, uu] [] σ2 K) K) else PW (d + 1) M_Mod_send 46 [.ref x0, .int x1, uu] [] σ1 K))) else K (.inl (some (.int ((-1))))) σ1))) else K (.inl (some (.int 0))) σ1)) K)) : PW (d + 1) M_Mod_send 13 [.ref x0, .int x1, uu] [.int y0, .ref y1] σ K := by
  obtain ⟨hs1, h⟩ := h
  refine pw_callV (vs := [.int y0]) (st := []) (b := y1) (cn := 11) dc_Mod_send_13 cq_Mod_refused (List.mem_of_getElem? (i := 1136) (by decide +kernel)) (List.mem_of_getElem? (i := 26) (by decide +kernel)) (List.mem_of_getElem? (i := 1134) (by decide +kernel)) rfl hs1 rfl rfl (by decide) (cat_cons rfl (cat_nil)) (Nat.le_of_ble_eq_true rfl) (PW.mono (kI_kN (fun r1 σ1 h => ?_)) h)
  refine pw_if_eq (tgt := 21) dc_Mod_send_16 (by decide) (fun hc => ?_) (fun hc => ?_)
  · have h := ite_t h hc
    refine pw_aload_n dc_Mod_send_21 rfl rfl ?_
    obtain ⟨hs2, h⟩ := h
    refine pw_getR (c := 11) (k := 1) (f := 705) dc_Mod_send_22 fl_Mod_7 rfl rfl hs2 ?_
    obtain ⟨b1, hb1, h⟩ := h
    refine PW.top (v' := .ref b1) (congrArg va_rf hb1) ?_
    refine pw_iload_n dc_Mod_send_25 rfl ?_
    obtain ⟨n1, hs3, h⟩ := h
    obtain ⟨hi1, h⟩ := h
    refine pw_zald dc_Mod_send_26 hs3 hi1 ?_
    refine pw_if_eq (tgt := 32) dc_Mod_send_27 (by decide) (fun hc => ?_) (fun hc => ?_)
    · have h := ite_t h hc
      refine pw_aload_n dc_Mod_send_32 rfl rfl ?_
      refine pw_getR (c := 11) (k := 28) (f := 732) dc_Mod_send_33 fl_Mod_85 rfl rfl hs2 ?_
      obtain ⟨b2, hb2, h⟩ := h
      refine PW.top (v' := .ref b2) (congrArg va_rf hb2) ?_
      refine pw_iload_n dc_Mod_send_36 rfl ?_
      obtain ⟨n2, hs4, h⟩ := h
      obtain ⟨hi2, h⟩ := h
      refine pw_iald dc_Mod_send_37 hs4 hi2 ?_
      refine pw_if_ne (tgt := 46) dc_Mod_send_38 (by decide) (fun hc => ?_) (fun hc => ?_)
      · have h := ite_f h hc
        exact h
      · have h := ite_t h hc
        refine pw_aload_n dc_Mod_send_41 rfl rfl ?_
        refine pw_iload_n dc_Mod_send_42 rfl ?_
        refine pw_callV (vs := [.int x1]) (st := []) (b := x0) (cn := 11) dc_Mod_send_43 cq_Mod_pick (List.mem_of_getElem? (i := 1280) (by decide +kernel)) (List.mem_of_getElem? (i := 52) (by decide +kernel)) (List.mem_of_getElem? (i := 1278) (by decide +kernel)) rfl hs2 rfl rfl (by decide) (cat_cons rfl (cat_nil)) (Nat.le_of_ble_eq_true rfl) (PW.mono (kV_kN (fun σ2 h => ?_)) h)
        exact h
    · have h := ite_f h hc
      refine pw_iconst (v := (-1)) dc_Mod_send_30 (by decide) ?_
      exact pw_iret dc_Mod_send_31 rfl rfl h
  · have h := ite_f h hc
    refine pw_iconst (v := 0) dc_Mod_send_19 (by decide) ?_
    exact pw_iret dc_Mod_send_20 rfl rfl h
set_option maxRecDepth 20000 in
theorem e_Mod_send_46 {d : Nat} {σ : PH} {K : PO → PH → Prop} (x0 : Nat) (x1 : Int32) (h : sh σ x0 = (1, 11) ∧ (∃ b1 : Nat, gR σ 732 x0 = some b1 ∧ (∃ n1 : Nat, sh σ b1 = (2, n1) ∧ vp_in x1 n1 ∧ (if (eI σ b1 (ix x1)) = 0 then K (.inl (some (.int ((-1))))) σ else PW d M_Mod_write 0 [.ref x0, .int x1, uu, uu, uu] [] σ (kV (fun σ1 => sh σ1 x0 = (1, 11) ∧ PW d M_Mod_toSigns 0 [.ref x0, uu, uu, uu, uu] [] σ1 (kV (fun σ2 => sh σ2 x0 = (1, 11) ∧ (∃ b2 : Nat, gR σ2 757 x0 = some b2 ∧ (∃ b3 : Nat, gR σ2 735 x0 = some b3 ∧ (∃ n2 : Nat, sh σ2 b3 = (2, n2) ∧ vp_in x1 n2 ∧ (∃ n3 : Nat, sh σ2 b2 = (2, n3) ∧ vp_in (eI σ2 b3 (ix x1)) n3 ∧ vp_in x1 n2 ∧ vp_in x1 n2 ∧ (∀ σ3 : PH, σ3 = uI σ2 b3 (ix x1) ((eI σ2 b3 (ix x1)) + 1) → sh σ3 x0 = (1, 11) ∧ (∃ b4 : Nat, gR σ3 735 x0 = some b4 ∧ (∃ n4 : Nat, sh σ3 b4 = (2, n4) ∧ vp_in x1 n4 ∧ (if (eI σ3 b4 (ix x1)) = (gI σ3 756 x0) then PW d M_Mod_sent 0 [.ref x0, .int x1, uu, uu, uu] [] σ3 (kV (fun σ4 => K (.inl (some (.int (eI σ2 b2 (ix (eI σ2 b3 (ix x1))))))) σ4) K) else K (.inl (some (.int (eI σ2 b2 (ix (eI σ2 b3 (ix x1))))))) σ3))))))))) K)) K))))) : PW (d + 1) M_Mod_send 46 [.ref x0, .int x1, uu] [] σ K := by
  refine pw_aload_n dc_Mod_send_46 rfl rfl ?_
  obtain ⟨hs1, h⟩ := h
  refine pw_getR (c := 11) (k := 28) (f := 732) dc_Mod_send_47 fl_Mod_85 rfl rfl hs1 ?_
  obtain ⟨b1, hb1, h⟩ := h
  refine PW.top (v' := .ref b1) (congrArg va_rf hb1) ?_
  refine pw_iload_n dc_Mod_send_50 rfl ?_
  obtain ⟨n1, hs2, h⟩ := h
  obtain ⟨hi1, h⟩ := h
  refine pw_iald dc_Mod_send_51 hs2 hi1 ?_
  refine pw_if_ne (tgt := 57) dc_Mod_send_52 (by decide) (fun hc => ?_) (fun hc => ?_)
  · have h := ite_f h hc
    refine pw_aload_n dc_Mod_send_57 rfl rfl ?_
    refine pw_iload_n dc_Mod_send_58 rfl ?_
    refine pw_callV (vs := [.int x1]) (st := []) (b := x0) (cn := 11) dc_Mod_send_59 cq_Mod_write (List.mem_of_getElem? (i := 1284) (by decide +kernel)) (List.mem_of_getElem? (i := 53) (by decide +kernel)) (List.mem_of_getElem? (i := 1282) (by decide +kernel)) rfl hs1 rfl rfl (by decide) (cat_cons rfl (cat_nil)) (Nat.le_of_ble_eq_true rfl) (PW.mono (kV_kN (fun σ1 h => ?_)) h)
    refine pw_aload_n dc_Mod_send_62 rfl rfl ?_
    obtain ⟨hs3, h⟩ := h
    refine pw_callV (vs := []) (st := []) (b := x0) (cn := 11) dc_Mod_send_63 cq_Mod_toSigns (List.mem_of_getElem? (i := 1296) (by decide +kernel)) (List.mem_of_getElem? (i := 56) (by decide +kernel)) (List.mem_of_getElem? (i := 1294) (by decide +kernel)) rfl hs3 rfl rfl (by decide) (cat_nil) (Nat.le_of_ble_eq_true rfl) (PW.mono (kV_kN (fun σ2 h => ?_)) h)
    refine pw_aload_n dc_Mod_send_66 rfl rfl ?_
    obtain ⟨hs4, h⟩ := h
    refine pw_getR (c := 11) (k := 53) (f := 757) dc_Mod_send_67 fl_Mod_130 rfl rfl hs4 ?_
    obtain ⟨b2, hb2, h⟩ := h
    refine PW.top (v' := .ref b2) (congrArg va_rf hb2) ?_
    refine pw_aload_n dc_Mod_send_70 rfl rfl ?_
    refine pw_getR (c := 11) (k := 31) (f := 735) dc_Mod_send_71 fl_Mod_94 rfl rfl hs4 ?_
    obtain ⟨b3, hb3, h⟩ := h
    refine PW.top (v' := .ref b3) (congrArg va_rf hb3) ?_
    refine pw_iload_n dc_Mod_send_74 rfl ?_
    obtain ⟨n2, hs5, h⟩ := h
    obtain ⟨hi2, h⟩ := h
    refine pw_iald dc_Mod_send_75 hs5 hi2 ?_
    obtain ⟨n3, hs6, h⟩ := h
    obtain ⟨hi3, h⟩ := h
    refine pw_iald dc_Mod_send_76 hs6 hi3 ?_
    refine pw_istore_n dc_Mod_send_77 (by decide) ?_
    refine pw_aload_n dc_Mod_send_78 rfl rfl ?_
    refine pw_getR (c := 11) (k := 31) (f := 735) dc_Mod_send_79 fl_Mod_94 rfl rfl hs4 ?_
    refine PW.top (v' := .ref b3) (congrArg va_rf hb3) ?_
    refine pw_iload_n dc_Mod_send_82 rfl ?_
    refine pw_dup2 dc_Mod_send_83 rfl rfl ?_
    obtain ⟨hi4, h⟩ := h
    refine pw_iald dc_Mod_send_84 hs5 hi4 ?_
    refine pw_iconst (v := 1) dc_Mod_send_85 (by decide) ?_
    refine pw_iadd dc_Mod_send_86 ?_
    obtain ⟨hi5, h⟩ := h
    have h := h _ rfl
    refine pw_iast dc_Mod_send_87 hs5 hi5 ?_
    refine pw_aload_n dc_Mod_send_88 rfl rfl ?_
    obtain ⟨hs7, h⟩ := h
    refine pw_getR (c := 11) (k := 31) (f := 735) dc_Mod_send_89 fl_Mod_94 rfl rfl hs7 ?_
    obtain ⟨b4, hb4, h⟩ := h
    refine PW.top (v' := .ref b4) (congrArg va_rf hb4) ?_
    refine pw_iload_n dc_Mod_send_92 rfl ?_
    obtain ⟨n4, hs8, h⟩ := h
    obtain ⟨hi6, h⟩ := h
    refine pw_iald dc_Mod_send_93 hs8 hi6 ?_
    refine pw_aload_n dc_Mod_send_94 rfl rfl ?_
    refine pw_getI (c := 11) (k := 52) (f := 756) dc_Mod_send_95 fl_Mod_301 rfl rfl hs7 ?_
    refine pw_icmp_ne (tgt := 106) dc_Mod_send_98 (by decide) (fun hc => ?_) (fun hc => ?_)
    · have h := ite_f h hc
      refine pw_iload_n dc_Mod_send_106 rfl ?_
      exact pw_iret dc_Mod_send_107 rfl rfl h
    · have h := ite_t h hc
      refine pw_aload_n dc_Mod_send_101 rfl rfl ?_
      refine pw_iload_n dc_Mod_send_102 rfl ?_
      refine pw_callV (vs := [.int x1]) (st := []) (b := x0) (cn := 11) dc_Mod_send_103 cq_Mod_sent (List.mem_of_getElem? (i := 1307) (by decide +kernel)) (List.mem_of_getElem? (i := 58) (by decide +kernel)) (List.mem_of_getElem? (i := 1305) (by decide +kernel)) rfl hs7 rfl rfl (by decide) (cat_cons rfl (cat_nil)) (Nat.le_of_ble_eq_true rfl) (PW.mono (kV_kN (fun σ4 h => ?_)) h)
      refine pw_iload_n dc_Mod_send_106 rfl ?_
      exact pw_iret dc_Mod_send_107 rfl rfl h
  · have h := ite_t h hc
    refine pw_iconst (v := (-1)) dc_Mod_send_55 (by decide) ?_
    exact pw_iret dc_Mod_send_56 rfl rfl h
theorem dc_Mod_rerun_0 : decode M_Mod_rerun.2.1 0 = .ok (.iload_n 1, 1) := by decide +kernel
theorem dc_Mod_rerun_1 : decode M_Mod_rerun.2.1 1 = .ok (.invokestatic 160, 3) := by decide +kernel
theorem dc_Mod_rerun_4 : decode M_Mod_rerun.2.1 4 = .ok (.ifCond .eq 18, 3) := by decide +kernel
theorem dc_Mod_rerun_7 : decode M_Mod_rerun.2.1 7 = .ok (.iload_n 2, 1) := by decide +kernel
theorem dc_Mod_rerun_8 : decode M_Mod_rerun.2.1 8 = .ok (.iconst 1, 1) := by decide +kernel
theorem dc_Mod_rerun_9 : decode M_Mod_rerun.2.1 9 = .ok (.sipush 999, 3) := by decide +kernel
theorem dc_Mod_rerun_12 : decode M_Mod_rerun.2.1 12 = .ok (.invokestatic 140, 3) := by decide +kernel
theorem dc_Mod_rerun_15 : decode M_Mod_rerun.2.1 15 = .ok (.ifCond .eq 7, 3) := by decide +kernel
theorem dc_Mod_rerun_18 : decode M_Mod_rerun.2.1 18 = .ok (.iconst 1, 1) := by decide +kernel
theorem dc_Mod_rerun_19 : decode M_Mod_rerun.2.1 19 = .ok (.goto 4, 3) := by decide +kernel
theorem dc_Mod_rerun_22 : decode M_Mod_rerun.2.1 22 = .ok (.iconst 0, 1) := by decide +kernel
theorem dc_Mod_rerun_23 : decode M_Mod_rerun.2.1 23 = .ok (.istore_n 3, 1) := by decide +kernel
theorem dc_Mod_rerun_24 : decode M_Mod_rerun.2.1 24 = .ok (.aload_n 0, 1) := by decide +kernel
theorem dc_Mod_rerun_25 : decode M_Mod_rerun.2.1 25 = .ok (.iload_n 3, 1) := by decide +kernel
theorem dc_Mod_rerun_26 : decode M_Mod_rerun.2.1 26 = .ok (.ifCond .ne 7, 3) := by decide +kernel
theorem dc_Mod_rerun_29 : decode M_Mod_rerun.2.1 29 = .ok (.iconst 1, 1) := by decide +kernel
theorem dc_Mod_rerun_30 : decode M_Mod_rerun.2.1 30 = .ok (.goto 18, 3) := by decide +kernel
theorem dc_Mod_rerun_33 : decode M_Mod_rerun.2.1 33 = .ok (.aload_n 0, 1) := by decide +kernel
theorem dc_Mod_rerun_34 : decode M_Mod_rerun.2.1 34 = .ok (.getfield 106, 3) := by decide +kernel
theorem dc_Mod_rerun_37 : decode M_Mod_rerun.2.1 37 = .ok (.iload_n 1, 1) := by decide +kernel
theorem dc_Mod_rerun_38 : decode M_Mod_rerun.2.1 38 = .ok (.iaload, 1) := by decide +kernel
theorem dc_Mod_rerun_39 : decode M_Mod_rerun.2.1 39 = .ok (.iconst 3, 1) := by decide +kernel
theorem dc_Mod_rerun_40 : decode M_Mod_rerun.2.1 40 = .ok (.if_icmp .ne 7, 3) := by decide +kernel
theorem dc_Mod_rerun_43 : decode M_Mod_rerun.2.1 43 = .ok (.iconst 2, 1) := by decide +kernel
theorem dc_Mod_rerun_44 : decode M_Mod_rerun.2.1 44 = .ok (.goto 4, 3) := by decide +kernel
theorem dc_Mod_rerun_47 : decode M_Mod_rerun.2.1 47 = .ok (.iconst 0, 1) := by decide +kernel
theorem dc_Mod_rerun_48 : decode M_Mod_rerun.2.1 48 = .ok (.invokevirtual 164, 3) := by decide +kernel
theorem dc_Mod_rerun_51 : decode M_Mod_rerun.2.1 51 = .ok (.ifCond .eq 5, 3) := by decide +kernel
theorem dc_Mod_rerun_54 : decode M_Mod_rerun.2.1 54 = .ok (.iconst 0, 1) := by decide +kernel
theorem dc_Mod_rerun_55 : decode M_Mod_rerun.2.1 55 = .ok (.ireturn, 1) := by decide +kernel
theorem dc_Mod_rerun_56 : decode M_Mod_rerun.2.1 56 = .ok (.iconst 0, 1) := by decide +kernel
theorem dc_Mod_rerun_57 : decode M_Mod_rerun.2.1 57 = .ok (.istore 4, 2) := by decide +kernel
theorem dc_Mod_rerun_59 : decode M_Mod_rerun.2.1 59 = .ok (.iload 4, 2) := by decide +kernel
theorem dc_Mod_rerun_61 : decode M_Mod_rerun.2.1 61 = .ok (.aload_n 0, 1) := by decide +kernel
theorem dc_Mod_rerun_62 : decode M_Mod_rerun.2.1 62 = .ok (.getfield 97, 3) := by decide +kernel
theorem dc_Mod_rerun_65 : decode M_Mod_rerun.2.1 65 = .ok (.iload_n 1, 1) := by decide +kernel
theorem dc_Mod_rerun_66 : decode M_Mod_rerun.2.1 66 = .ok (.iaload, 1) := by decide +kernel
theorem dc_Mod_rerun_67 : decode M_Mod_rerun.2.1 67 = .ok (.if_icmp .ge 74, 3) := by decide +kernel
theorem dc_Mod_rerun_70 : decode M_Mod_rerun.2.1 70 = .ok (.aload_n 0, 1) := by decide +kernel
theorem dc_Mod_rerun_71 : decode M_Mod_rerun.2.1 71 = .ok (.getfield 103, 3) := by decide +kernel
theorem dc_Mod_rerun_74 : decode M_Mod_rerun.2.1 74 = .ok (.iconst 3, 1) := by decide +kernel
theorem dc_Mod_rerun_75 : decode M_Mod_rerun.2.1 75 = .ok (.iload_n 1, 1) := by decide +kernel
theorem dc_Mod_rerun_76 : decode M_Mod_rerun.2.1 76 = .ok (.imul, 1) := by decide +kernel
theorem dc_Mod_rerun_77 : decode M_Mod_rerun.2.1 77 = .ok (.iload 4, 2) := by decide +kernel
theorem dc_Mod_rerun_79 : decode M_Mod_rerun.2.1 79 = .ok (.iadd, 1) := by decide +kernel
theorem dc_Mod_rerun_80 : decode M_Mod_rerun.2.1 80 = .ok (.iaload, 1) := by decide +kernel
theorem dc_Mod_rerun_81 : decode M_Mod_rerun.2.1 81 = .ok (.iload_n 2, 1) := by decide +kernel
theorem dc_Mod_rerun_82 : decode M_Mod_rerun.2.1 82 = .ok (.if_icmp .ne 53, 3) := by decide +kernel
theorem dc_Mod_rerun_85 : decode M_Mod_rerun.2.1 85 = .ok (.iconst 3, 1) := by decide +kernel
theorem dc_Mod_rerun_86 : decode M_Mod_rerun.2.1 86 = .ok (.iload_n 1, 1) := by decide +kernel
theorem dc_Mod_rerun_87 : decode M_Mod_rerun.2.1 87 = .ok (.imul, 1) := by decide +kernel
theorem dc_Mod_rerun_88 : decode M_Mod_rerun.2.1 88 = .ok (.aload_n 0, 1) := by decide +kernel
theorem dc_Mod_rerun_89 : decode M_Mod_rerun.2.1 89 = .ok (.getfield 106, 3) := by decide +kernel
theorem dc_Mod_rerun_92 : decode M_Mod_rerun.2.1 92 = .ok (.iload_n 1, 1) := by decide +kernel
theorem dc_Mod_rerun_93 : decode M_Mod_rerun.2.1 93 = .ok (.iaload, 1) := by decide +kernel
theorem dc_Mod_rerun_94 : decode M_Mod_rerun.2.1 94 = .ok (.iadd, 1) := by decide +kernel
theorem dc_Mod_rerun_95 : decode M_Mod_rerun.2.1 95 = .ok (.istore 5, 2) := by decide +kernel
theorem dc_Mod_rerun_97 : decode M_Mod_rerun.2.1 97 = .ok (.aload_n 0, 1) := by decide +kernel
theorem dc_Mod_rerun_98 : decode M_Mod_rerun.2.1 98 = .ok (.getfield 109, 3) := by decide +kernel
theorem dc_Mod_rerun_101 : decode M_Mod_rerun.2.1 101 = .ok (.iload 5, 2) := by decide +kernel
theorem dc_Mod_rerun_103 : decode M_Mod_rerun.2.1 103 = .ok (.aload_n 0, 1) := by decide +kernel
theorem dc_Mod_rerun_104 : decode M_Mod_rerun.2.1 104 = .ok (.getfield 100, 3) := by decide +kernel
theorem dc_Mod_rerun_107 : decode M_Mod_rerun.2.1 107 = .ok (.iconst 3, 1) := by decide +kernel
theorem dc_Mod_rerun_108 : decode M_Mod_rerun.2.1 108 = .ok (.iload_n 1, 1) := by decide +kernel
theorem dc_Mod_rerun_109 : decode M_Mod_rerun.2.1 109 = .ok (.imul, 1) := by decide +kernel
theorem dc_Mod_rerun_110 : decode M_Mod_rerun.2.1 110 = .ok (.iload 4, 2) := by decide +kernel
theorem dc_Mod_rerun_112 : decode M_Mod_rerun.2.1 112 = .ok (.iadd, 1) := by decide +kernel
theorem dc_Mod_rerun_113 : decode M_Mod_rerun.2.1 113 = .ok (.iaload, 1) := by decide +kernel
theorem dc_Mod_rerun_114 : decode M_Mod_rerun.2.1 114 = .ok (.iastore, 1) := by decide +kernel
theorem dc_Mod_rerun_115 : decode M_Mod_rerun.2.1 115 = .ok (.aload_n 0, 1) := by decide +kernel
theorem dc_Mod_rerun_116 : decode M_Mod_rerun.2.1 116 = .ok (.getfield 112, 3) := by decide +kernel
theorem dc_Mod_rerun_119 : decode M_Mod_rerun.2.1 119 = .ok (.iload 5, 2) := by decide +kernel
theorem dc_Mod_rerun_121 : decode M_Mod_rerun.2.1 121 = .ok (.iload_n 2, 1) := by decide +kernel
theorem dc_Mod_rerun_122 : decode M_Mod_rerun.2.1 122 = .ok (.iastore, 1) := by decide +kernel
theorem dc_Mod_rerun_123 : decode M_Mod_rerun.2.1 123 = .ok (.aload_n 0, 1) := by decide +kernel
theorem dc_Mod_rerun_124 : decode M_Mod_rerun.2.1 124 = .ok (.getfield 106, 3) := by decide +kernel
theorem dc_Mod_rerun_127 : decode M_Mod_rerun.2.1 127 = .ok (.iload_n 1, 1) := by decide +kernel
theorem dc_Mod_rerun_128 : decode M_Mod_rerun.2.1 128 = .ok (.dup2, 1) := by decide +kernel
theorem dc_Mod_rerun_129 : decode M_Mod_rerun.2.1 129 = .ok (.iaload, 1) := by decide +kernel
theorem dc_Mod_rerun_130 : decode M_Mod_rerun.2.1 130 = .ok (.iconst 1, 1) := by decide +kernel
theorem dc_Mod_rerun_131 : decode M_Mod_rerun.2.1 131 = .ok (.iadd, 1) := by decide +kernel
theorem dc_Mod_rerun_132 : decode M_Mod_rerun.2.1 132 = .ok (.iastore, 1) := by decide +kernel
theorem dc_Mod_rerun_133 : decode M_Mod_rerun.2.1 133 = .ok (.iconst 1, 1) := by decide +kernel
theorem dc_Mod_rerun_134 : decode M_Mod_rerun.2.1 134 = .ok (.ireturn, 1) := by decide +kernel
theorem dc_Mod_rerun_135 : decode M_Mod_rerun.2.1 135 = .ok (.iinc 4 1, 3) := by decide +kernel
theorem dc_Mod_rerun_138 : decode M_Mod_rerun.2.1 138 = .ok (.goto (-79), 3) := by decide +kernel
theorem dc_Mod_rerun_141 : decode M_Mod_rerun.2.1 141 = .ok (.iconst 0, 1) := by decide +kernel
theorem dc_Mod_rerun_142 : decode M_Mod_rerun.2.1 142 = .ok (.ireturn, 1) := by decide +kernel
set_option maxRecDepth 20000 in
theorem e_Mod_rerun_0 {d : Nat} {σ : PH} {K : PO → PH → Prop} (x0 : Nat) (x1 : Int32) (x2 : Int32) (h : PW d M_Mod_isChannel 0 [.int x1] [] σ (kI (fun r1 σ1 => (if r1 = 0 then PW (d + 1) M_Mod_rerun 22 [.ref x0, .int x1, .int x2, uu, uu, uu] [] σ1 K else PW d M_Mod_isIn 0 [.int x2, .int 1, .int 999] [] σ1 (kI (fun r2 σ2 => (if r2 = 0 then PW (d + 1) M_Mod_rerun 22 [.ref x0, .int x1, .int x2, uu, uu, uu] [] σ2 K else PW (d + 1) M_Mod_rerun 23 [.ref x0, .int x1, .int x2, uu, uu, uu] [.int 1] σ2 K)) K))) K)) : PW (d + 1) M_Mod_rerun 0 [.ref x0, .int x1, .int x2, uu, uu, uu] [] σ K := by
  refine pw_iload_n dc_Mod_rerun_0 rfl ?_
  refine pw_callS (vs := [.int x1]) (st := []) dc_Mod_rerun_1 cq_Mod_isChannel (List.mem_of_getElem? (i := 1129) (by decide +kernel)) (List.mem_of_getElem? (i := 1128) (by decide +kernel)) rfl rfl (cat_cons rfl (cat_nil)) (Nat.le_of_ble_eq_true rfl) (PW.mono (kI_kN (fun r1 σ1 h => ?_)) h)
  refine pw_if_eq (tgt := 22) dc_Mod_rerun_4 (by decide) (fun hc => ?_) (fun hc => ?_)
  · have h := ite_t h hc
    exact h
  · have h := ite_f h hc
    refine pw_iload_n dc_Mod_rerun_7 rfl ?_
    refine pw_iconst (v := 1) dc_Mod_rerun_8 (by decide) ?_
    refine pw_sipush (v := 999) dc_Mod_rerun_9 (by decide) ?_
    refine pw_callS (vs := [.int x2, .int 1, .int 999]) (st := []) dc_Mod_rerun_12 cq_Mod_isIn (List.mem_of_getElem? (i := 1132) (by decide +kernel)) (List.mem_of_getElem? (i := 1131) (by decide +kernel)) rfl rfl (cat_cons rfl (cat_cons rfl (cat_cons rfl (cat_nil)))) (Nat.le_of_ble_eq_true rfl) (PW.mono (kI_kN (fun r2 σ2 h => ?_)) h)
    refine pw_if_eq (tgt := 22) dc_Mod_rerun_15 (by decide) (fun hc => ?_) (fun hc => ?_)
    · have h := ite_t h hc
      exact h
    · have h := ite_f h hc
      refine pw_iconst (v := 1) dc_Mod_rerun_18 (by decide) ?_
      refine pw_goto (tgt := 23) dc_Mod_rerun_19 (by decide) ?_
      exact h
set_option maxRecDepth 20000 in
theorem e_Mod_rerun_22 {d : Nat} {σ : PH} {K : PO → PH → Prop} (x0 : Nat) (x1 : Int32) (x2 : Int32) (h : PW (d + 1) M_Mod_rerun 23 [.ref x0, .int x1, .int x2, uu, uu, uu] [.int 0] σ K) : PW (d + 1) M_Mod_rerun 22 [.ref x0, .int x1, .int x2, uu, uu, uu] [] σ K := by
  refine pw_iconst (v := 0) dc_Mod_rerun_22 (by decide) ?_
  exact h
set_option maxRecDepth 20000 in
theorem e_Mod_rerun_23 {d : Nat} {σ : PH} {K : PO → PH → Prop} (x0 : Nat) (x1 : Int32) (x2 : Int32) (y0 : Int32) (h : (if y0 = 0 then PW (d + 1) M_Mod_rerun 48 [.ref x0, .int x1, .int x2, uu, uu, uu] [.int 1, .ref x0] σ K else sh σ x0 = (1, 11) ∧ (∃ b1 : Nat, gR σ 739 x0 = some b1 ∧ (∃ n1 : Nat, sh σ b1 = (2, n1) ∧ vp_in x1 n1 ∧ (if (eI σ b1 (ix x1)) = 3 then PW (d + 1) M_Mod_rerun 48 [.ref x0, .int x1, .int x2, uu, uu, uu] [.int 2, .ref x0] σ K else PW (d + 1) M_Mod_rerun 48 [.ref x0, .int x1, .int x2, uu, uu, uu] [.int 0, .ref x0] σ K))))) : PW (d + 1) M_Mod_rerun 23 [.ref x0, .int x1, .int x2, uu, uu, uu] [.int y0] σ K := by
  refine pw_istore_n dc_Mod_rerun_23 (by decide) ?_
  refine pw_aload_n dc_Mod_rerun_24 rfl rfl ?_
  refine pw_iload_n dc_Mod_rerun_25 rfl ?_
  refine pw_if_ne (tgt := 33) dc_Mod_rerun_26 (by decide) (fun hc => ?_) (fun hc => ?_)
  · have h := ite_f h hc
    refine pw_aload_n dc_Mod_rerun_33 rfl rfl ?_
    obtain ⟨hs1, h⟩ := h
    refine pw_getR (c := 11) (k := 35) (f := 739) dc_Mod_rerun_34 fl_Mod_106 rfl rfl hs1 ?_
    obtain ⟨b1, hb1, h⟩ := h
    refine PW.top (v' := .ref b1) (congrArg va_rf hb1) ?_
    refine pw_iload_n dc_Mod_rerun_37 rfl ?_
    obtain ⟨n1, hs2, h⟩ := h
    obtain ⟨hi1, h⟩ := h
    refine pw_iald dc_Mod_rerun_38 hs2 hi1 ?_
    refine pw_iconst (v := 3) dc_Mod_rerun_39 (by decide) ?_
    refine pw_icmp_ne (tgt := 47) dc_Mod_rerun_40 (by decide) (fun hc => ?_) (fun hc => ?_)
    · have h := ite_f h hc
      refine pw_iconst (v := 0) dc_Mod_rerun_47 (by decide) ?_
      refine PW.drop (ls' := [.ref x0, .int x1, .int x2, uu, uu, uu]) ⟨Or.inl rfl, Or.inl rfl, Or.inl rfl, Or.inr rfl, Or.inl rfl, Or.inl rfl, trivial⟩ ?_
      exact h
    · have h := ite_t h hc
      refine pw_iconst (v := 2) dc_Mod_rerun_43 (by decide) ?_
      refine pw_goto (tgt := 48) dc_Mod_rerun_44 (by decide) ?_
      refine PW.drop (ls' := [.ref x0, .int x1, .int x2, uu, uu, uu]) ⟨Or.inl rfl, Or.inl rfl, Or.inl rfl, Or.inr rfl, Or.inl rfl, Or.inl rfl, trivial⟩ ?_
      exact h
  · have h := ite_t h hc
    refine pw_iconst (v := 1) dc_Mod_rerun_29 (by decide) ?_
    refine pw_goto (tgt := 48) dc_Mod_rerun_30 (by decide) ?_
    refine PW.drop (ls' := [.ref x0, .int x1, .int x2, uu, uu, uu]) ⟨Or.inl rfl, Or.inl rfl, Or.inl rfl, Or.inr rfl, Or.inl rfl, Or.inl rfl, trivial⟩ ?_
    exact h
set_option maxRecDepth 20000 in
theorem e_Mod_rerun_48 {d : Nat} {σ : PH} {K : PO → PH → Prop} (x0 : Nat) (x1 : Int32) (x2 : Int32) (y0 : Int32) (y1 : Nat) (h : sh σ y1 = (1, 11) ∧ PW d M_Mod_refused 0 [.ref y1, .int y0] [] σ (kI (fun r1 σ1 => (if r1 = 0 then PW (d + 1) M_Mod_rerun 59 [.ref x0, .int x1, .int x2, uu, .int 0, uu] [] σ1 K else K (.inl (some (.int 0))) σ1)) K)) : PW (d + 1) M_Mod_rerun 48 [.ref x0, .int x1, .int x2, uu, uu, uu] [.int y0, .ref y1] σ K := by
  obtain ⟨hs1, h⟩ := h
  refine pw_callV (vs := [.int y0]) (st := []) (b := y1) (cn := 11) dc_Mod_rerun_48 cq_Mod_refused (List.mem_of_getElem? (i := 1136) (by decide +kernel)) (List.mem_of_getElem? (i := 26) (by decide +kernel)) (List.mem_of_getElem? (i := 1134) (by decide +kernel)) rfl hs1 rfl rfl (by decide) (cat_cons rfl (cat_nil)) (Nat.le_of_ble_eq_true rfl) (PW.mono (kI_kN (fun r1 σ1 h => ?_)) h)
  refine pw_if_eq (tgt := 56) dc_Mod_rerun_51 (by decide) (fun hc => ?_) (fun hc => ?_)
  · have h := ite_t h hc
    refine pw_iconst (v := 0) dc_Mod_rerun_56 (by decide) ?_
    refine pw_istore dc_Mod_rerun_57 (by decide) ?_
    exact h
  · have h := ite_f h hc
    refine pw_iconst (v := 0) dc_Mod_rerun_54 (by decide) ?_
    exact pw_iret dc_Mod_rerun_55 rfl (bo_nar (Or.inl rfl)) h
set_option maxRecDepth 20000 in
theorem e_Mod_rerun_59 {d : Nat} {σ : PH} {K : PO → PH → Prop} (x0 : Nat) (x1 : Int32) (x2 : Int32) (x4 : Int32) (h : sh σ x0 = (1, 11) ∧ (∃ b1 : Nat, gR σ 736 x0 = some b1 ∧ (∃ n1 : Nat, sh σ b1 = (2, n1) ∧ vp_in x1 n1 ∧ (if (eI σ b1 (ix x1)) ≤ x4 then K (.inl (some (.int 0))) σ else (∃ b2 : Nat, gR σ 738 x0 = some b2 ∧ (∃ n2 : Nat, sh σ b2 = (2, n2) ∧ vp_in ((3 * x1) + x4) n2 ∧ (if (eI σ b2 (ix ((3 * x1) + x4))) = x2 then (∃ b3 : Nat, gR σ 739 x0 = some b3 ∧ (∃ n3 : Nat, sh σ b3 = (2, n3) ∧ vp_in x1 n3 ∧ (∃ b4 : Nat, gR σ 740 x0 = some b4 ∧ (∃ b5 : Nat, gR σ 737 x0 = some b5 ∧ (∃ n4 : Nat, sh σ b5 = (2, n4) ∧ vp_in ((3 * x1) + x4) n4 ∧ (∃ n5 : Nat, sh σ b4 = (2, n5) ∧ vp_in ((3 * x1) + (eI σ b3 (ix x1))) n5 ∧ (∀ σ1 : PH, σ1 = uI σ b4 (ix ((3 * x1) + (eI σ b3 (ix x1)))) (eI σ b5 (ix ((3 * x1) + x4))) → sh σ1 x0 = (1, 11) ∧ (∃ b6 : Nat, gR σ1 741 x0 = some b6 ∧ (∃ n6 : Nat, sh σ1 b6 = (2, n6) ∧ vp_in ((3 * x1) + (eI σ b3 (ix x1))) n6 ∧ (∀ σ2 : PH, σ2 = uI σ1 b6 (ix ((3 * x1) + (eI σ b3 (ix x1)))) x2 → sh σ2 x0 = (1, 11) ∧ (∃ b7 : Nat, gR σ2 739 x0 = some b7 ∧ (∃ n7 : Nat, sh σ2 b7 = (2, n7) ∧ vp_in x1 n7 ∧ vp_in x1 n7 ∧ (∀ σ3 : PH, σ3 = uI σ2 b7 (ix x1) ((eI σ2 b7 (ix x1)) + 1) → K (.inl (some (.int 1))) σ3))))))))))))) else PW (d + 1) M_Mod_rerun 59 [.ref x0, .int x1, .int x2, uu, .int (x4 + 1), uu] [] σ K))))))) : PW (d + 1) M_Mod_rerun 59 [.ref x0, .int x1, .int x2, uu, .int x4, uu] [] σ K := by
  refine pw_iload dc_Mod_rerun_59 rfl ?_
  refine pw_aload_n dc_Mod_rerun_61 rfl rfl ?_
  obtain ⟨hs1, h⟩ := h
  refine pw_getR (c := 11) (k := 32) (f := 736) dc_Mod_rerun_62 fl_Mod_97 rfl rfl hs1 ?_
  obtain ⟨b1, hb1, h⟩ := h
  refine PW.top (v' := .ref b1) (congrArg va_rf hb1) ?_
  refine pw_iload_n dc_Mod_rerun_65 rfl ?_
  obtain ⟨n1, hs2, h⟩ := h
  obtain ⟨hi1, h⟩ := h
  refine pw_iald dc_Mod_rerun_66 hs2 hi1 ?_
  refine pw_icmp_ge (tgt := 141) dc_Mod_rerun_67 (by decide) (fun hc => ?_) (fun hc => ?_)
  · have h := ite_t h hc
    refine pw_iconst (v := 0) dc_Mod_rerun_141 (by decide) ?_
    exact pw_iret dc_Mod_rerun_142 rfl (bo_nar (Or.inl rfl)) h
  · have h := ite_f h hc
    refine pw_aload_n dc_Mod_rerun_70 rfl rfl ?_
    refine pw_getR (c := 11) (k := 34) (f := 738) dc_Mod_rerun_71 fl_Mod_103 rfl rfl hs1 ?_
    obtain ⟨b2, hb2, h⟩ := h
    refine PW.top (v' := .ref b2) (congrArg va_rf hb2) ?_
    refine pw_iconst (v := 3) dc_Mod_rerun_74 (by decide) ?_
    refine pw_iload_n dc_Mod_rerun_75 rfl ?_
    refine pw_imul dc_Mod_rerun_76 ?_
    refine pw_iload dc_Mod_rerun_77 rfl ?_
    refine pw_iadd dc_Mod_rerun_79 ?_
    obtain ⟨n2, hs3, h⟩ := h
    obtain ⟨hi2, h⟩ := h
    refine pw_iald dc_Mod_rerun_80 hs3 hi2 ?_
    refine pw_iload_n dc_Mod_rerun_81 rfl ?_
    refine pw_icmp_ne (tgt := 135) dc_Mod_rerun_82 (by decide) (fun hc => ?_) (fun hc => ?_)
    · have h := ite_f h hc
      refine pw_iincv (v := 1) dc_Mod_rerun_135 (by decide) rfl (by decide) ?_
      refine pw_goto (tgt := 59) dc_Mod_rerun_138 (by decide) ?_
      exact h
    · have h := ite_t h hc
      refine pw_iconst (v := 3) dc_Mod_rerun_85 (by decide) ?_
      refine pw_iload_n dc_Mod_rerun_86 rfl ?_
      refine pw_imul dc_Mod_rerun_87 ?_
      refine pw_aload_n dc_Mod_rerun_88 rfl rfl ?_
      refine pw_getR (c := 11) (k := 35) (f := 739) dc_Mod_rerun_89 fl_Mod_106 rfl rfl hs1 ?_
      obtain ⟨b3, hb3, h⟩ := h
      refine PW.top (v' := .ref b3) (congrArg va_rf hb3) ?_
      refine pw_iload_n dc_Mod_rerun_92 rfl ?_
      obtain ⟨n3, hs4, h⟩ := h
      obtain ⟨hi3, h⟩ := h
      refine pw_iald dc_Mod_rerun_93 hs4 hi3 ?_
      refine pw_iadd dc_Mod_rerun_94 ?_
      refine pw_istore dc_Mod_rerun_95 (by decide) ?_
      refine pw_aload_n dc_Mod_rerun_97 rfl rfl ?_
      refine pw_getR (c := 11) (k := 36) (f := 740) dc_Mod_rerun_98 fl_Mod_109 rfl rfl hs1 ?_
      obtain ⟨b4, hb4, h⟩ := h
      refine PW.top (v' := .ref b4) (congrArg va_rf hb4) ?_
      refine pw_iload dc_Mod_rerun_101 rfl ?_
      refine pw_aload_n dc_Mod_rerun_103 rfl rfl ?_
      refine pw_getR (c := 11) (k := 33) (f := 737) dc_Mod_rerun_104 fl_Mod_100 rfl rfl hs1 ?_
      obtain ⟨b5, hb5, h⟩ := h
      refine PW.top (v' := .ref b5) (congrArg va_rf hb5) ?_
      refine pw_iconst (v := 3) dc_Mod_rerun_107 (by decide) ?_
      refine pw_iload_n dc_Mod_rerun_108 rfl ?_
      refine pw_imul dc_Mod_rerun_109 ?_
      refine pw_iload dc_Mod_rerun_110 rfl ?_
      refine pw_iadd dc_Mod_rerun_112 ?_
      obtain ⟨n4, hs5, h⟩ := h
      obtain ⟨hi4, h⟩ := h
      refine pw_iald dc_Mod_rerun_113 hs5 hi4 ?_
      obtain ⟨n5, hs6, h⟩ := h
      obtain ⟨hi5, h⟩ := h
      have h := h _ rfl
      refine pw_iast dc_Mod_rerun_114 hs6 hi5 ?_
      refine pw_aload_n dc_Mod_rerun_115 rfl rfl ?_
      obtain ⟨hs7, h⟩ := h
      refine pw_getR (c := 11) (k := 37) (f := 741) dc_Mod_rerun_116 fl_Mod_112 rfl rfl hs7 ?_
      obtain ⟨b6, hb6, h⟩ := h
      refine PW.top (v' := .ref b6) (congrArg va_rf hb6) ?_
      refine pw_iload dc_Mod_rerun_119 rfl ?_
      refine pw_iload_n dc_Mod_rerun_121 rfl ?_
      obtain ⟨n6, hs8, h⟩ := h
      obtain ⟨hi6, h⟩ := h
      have h := h _ rfl
      refine pw_iast dc_Mod_rerun_122 hs8 hi6 ?_
      refine pw_aload_n dc_Mod_rerun_123 rfl rfl ?_
      obtain ⟨hs9, h⟩ := h
      refine pw_getR (c := 11) (k := 35) (f := 739) dc_Mod_rerun_124 fl_Mod_106 rfl rfl hs9 ?_
      obtain ⟨b7, hb7, h⟩ := h
      refine PW.top (v' := .ref b7) (congrArg va_rf hb7) ?_
      refine pw_iload_n dc_Mod_rerun_127 rfl ?_
      refine pw_dup2 dc_Mod_rerun_128 rfl rfl ?_
      obtain ⟨n7, hs10, h⟩ := h
      obtain ⟨hi7, h⟩ := h
      refine pw_iald dc_Mod_rerun_129 hs10 hi7 ?_
      refine pw_iconst (v := 1) dc_Mod_rerun_130 (by decide) ?_
      refine pw_iadd dc_Mod_rerun_131 ?_
      obtain ⟨hi8, h⟩ := h
      have h := h _ rfl
      refine pw_iast dc_Mod_rerun_132 hs10 hi8 ?_
      refine pw_iconst (v := 1) dc_Mod_rerun_133 (by decide) ?_
      exact pw_iret dc_Mod_rerun_134 rfl (bo_nar (Or.inr rfl)) h
theorem dc_Mod_queued_0 : decode M_Mod_queued.2.1 0 = .ok (.aload_n 0, 1) := by decide +kernel
theorem dc_Mod_queued_1 : decode M_Mod_queued.2.1 1 = .ok (.iload_n 1, 1) := by decide +kernel
theorem dc_Mod_queued_2 : decode M_Mod_queued.2.1 2 = .ok (.invokestatic 160, 3) := by decide +kernel
theorem dc_Mod_queued_5 : decode M_Mod_queued.2.1 5 = .ok (.ifCond .eq 16, 3) := by decide +kernel
theorem dc_Mod_queued_8 : decode M_Mod_queued.2.1 8 = .ok (.iload_n 2, 1) := by decide +kernel
theorem dc_Mod_queued_9 : decode M_Mod_queued.2.1 9 = .ok (.iconst 1, 1) := by decide +kernel
theorem dc_Mod_queued_10 : decode M_Mod_queued.2.1 10 = .ok (.iconst 4, 1) := by decide +kernel
theorem dc_Mod_queued_11 : decode M_Mod_queued.2.1 11 = .ok (.invokestatic 140, 3) := by decide +kernel
theorem dc_Mod_queued_14 : decode M_Mod_queued.2.1 14 = .ok (.ifCond .eq 7, 3) := by decide +kernel
theorem dc_Mod_queued_17 : decode M_Mod_queued.2.1 17 = .ok (.iconst 0, 1) := by decide +kernel
theorem dc_Mod_queued_18 : decode M_Mod_queued.2.1 18 = .ok (.goto 4, 3) := by decide +kernel
theorem dc_Mod_queued_21 : decode M_Mod_queued.2.1 21 = .ok (.iconst 1, 1) := by decide +kernel
theorem dc_Mod_queued_22 : decode M_Mod_queued.2.1 22 = .ok (.invokevirtual 164, 3) := by decide +kernel
theorem dc_Mod_queued_25 : decode M_Mod_queued.2.1 25 = .ok (.ifCond .eq 5, 3) := by decide +kernel
theorem dc_Mod_queued_28 : decode M_Mod_queued.2.1 28 = .ok (.iconst 0, 1) := by decide +kernel
theorem dc_Mod_queued_29 : decode M_Mod_queued.2.1 29 = .ok (.ireturn, 1) := by decide +kernel
theorem dc_Mod_queued_30 : decode M_Mod_queued.2.1 30 = .ok (.iconst 0, 1) := by decide +kernel
theorem dc_Mod_queued_31 : decode M_Mod_queued.2.1 31 = .ok (.istore_n 3, 1) := by decide +kernel
theorem dc_Mod_queued_32 : decode M_Mod_queued.2.1 32 = .ok (.iconst 1, 1) := by decide +kernel
theorem dc_Mod_queued_33 : decode M_Mod_queued.2.1 33 = .ok (.istore 4, 2) := by decide +kernel
theorem dc_Mod_queued_35 : decode M_Mod_queued.2.1 35 = .ok (.iload 4, 2) := by decide +kernel
theorem dc_Mod_queued_37 : decode M_Mod_queued.2.1 37 = .ok (.aload_n 0, 1) := by decide +kernel
theorem dc_Mod_queued_38 : decode M_Mod_queued.2.1 38 = .ok (.getfield 247, 3) := by decide +kernel
theorem dc_Mod_queued_41 : decode M_Mod_queued.2.1 41 = .ok (.if_icmp .gt 44, 3) := by decide +kernel
theorem dc_Mod_queued_44 : decode M_Mod_queued.2.1 44 = .ok (.aload_n 0, 1) := by decide +kernel
theorem dc_Mod_queued_45 : decode M_Mod_queued.2.1 45 = .ok (.getfield 67, 3) := by decide +kernel
theorem dc_Mod_queued_48 : decode M_Mod_queued.2.1 48 = .ok (.bipush 8, 2) := by decide +kernel
theorem dc_Mod_queued_50 : decode M_Mod_queued.2.1 50 = .ok (.iload 4, 2) := by decide +kernel
theorem dc_Mod_queued_52 : decode M_Mod_queued.2.1 52 = .ok (.imul, 1) := by decide +kernel
theorem dc_Mod_queued_53 : decode M_Mod_queued.2.1 53 = .ok (.iload_n 1, 1) := by decide +kernel
theorem dc_Mod_queued_54 : decode M_Mod_queued.2.1 54 = .ok (.iadd, 1) := by decide +kernel
theorem dc_Mod_queued_55 : decode M_Mod_queued.2.1 55 = .ok (.iaload, 1) := by decide +kernel
theorem dc_Mod_queued_56 : decode M_Mod_queued.2.1 56 = .ok (.iconst 1, 1) := by decide +kernel
theorem dc_Mod_queued_57 : decode M_Mod_queued.2.1 57 = .ok (.if_icmp .ne 20, 3) := by decide +kernel
theorem dc_Mod_queued_60 : decode M_Mod_queued.2.1 60 = .ok (.aload_n 0, 1) := by decide +kernel
theorem dc_Mod_queued_61 : decode M_Mod_queued.2.1 61 = .ok (.getfield 52, 3) := by decide +kernel
theorem dc_Mod_queued_64 : decode M_Mod_queued.2.1 64 = .ok (.iload 4, 2) := by decide +kernel
theorem dc_Mod_queued_66 : decode M_Mod_queued.2.1 66 = .ok (.iaload, 1) := by decide +kernel
theorem dc_Mod_queued_67 : decode M_Mod_queued.2.1 67 = .ok (.iload_n 2, 1) := by decide +kernel
theorem dc_Mod_queued_68 : decode M_Mod_queued.2.1 68 = .ok (.if_icmp .ne 9, 3) := by decide +kernel
theorem dc_Mod_queued_71 : decode M_Mod_queued.2.1 71 = .ok (.iload_n 3, 1) := by decide +kernel
theorem dc_Mod_queued_72 : decode M_Mod_queued.2.1 72 = .ok (.iconst 1, 1) := by decide +kernel
theorem dc_Mod_queued_73 : decode M_Mod_queued.2.1 73 = .ok (.iadd, 1) := by decide +kernel
theorem dc_Mod_queued_74 : decode M_Mod_queued.2.1 74 = .ok (.goto 4, 3) := by decide +kernel
theorem dc_Mod_queued_77 : decode M_Mod_queued.2.1 77 = .ok (.iload_n 3, 1) := by decide +kernel
theorem dc_Mod_queued_78 : decode M_Mod_queued.2.1 78 = .ok (.istore_n 3, 1) := by decide +kernel
theorem dc_Mod_queued_79 : decode M_Mod_queued.2.1 79 = .ok (.iinc 4 1, 3) := by decide +kernel
theorem dc_Mod_queued_82 : decode M_Mod_queued.2.1 82 = .ok (.goto (-47), 3) := by decide +kernel
theorem dc_Mod_queued_85 : decode M_Mod_queued.2.1 85 = .ok (.iload_n 3, 1) := by decide +kernel
theorem dc_Mod_queued_86 : decode M_Mod_queued.2.1 86 = .ok (.ireturn, 1) := by decide +kernel
set_option maxRecDepth 20000 in
theorem e_Mod_queued_0 {d : Nat} {σ : PH} {K : PO → PH → Prop} (x0 : Nat) (x1 : Int32) (x2 : Int32) (h : PW d M_Mod_isChannel 0 [.int x1] [] σ (kI (fun r1 σ1 => (if r1 = 0 then PW (d + 1) M_Mod_queued 21 [.ref x0, .int x1, .int x2, uu, uu] [.ref x0] σ1 K else PW d M_Mod_isIn 0 [.int x2, .int 1, .int 4] [] σ1 (kI (fun r2 σ2 => (if r2 = 0 then PW (d + 1) M_Mod_queued 21 [.ref x0, .int x1, .int x2, uu, uu] [.ref x0] σ2 K else PW (d + 1) M_Mod_queued 22 [.ref x0, .int x1, .int x2, uu, uu] [.int 0, .ref x0] σ2 K)) K))) K)) : PW (d + 1) M_Mod_queued 0 [.ref x0, .int x1, .int x2, uu, uu] [] σ K := by
  refine pw_aload_n dc_Mod_queued_0 rfl rfl ?_
  refine pw_iload_n dc_Mod_queued_1 rfl ?_
  refine pw_callS (vs := [.int x1]) (st := [.ref x0]) dc_Mod_queued_2 cq_Mod_isChannel (List.mem_of_getElem? (i := 1129) (by decide +kernel)) (List.mem_of_getElem? (i := 1128) (by decide +kernel)) rfl rfl (cat_cons rfl (cat_nil)) (Nat.le_of_ble_eq_true rfl) (PW.mono (kI_kN (fun r1 σ1 h => ?_)) h)
  refine pw_if_eq (tgt := 21) dc_Mod_queued_5 (by decide) (fun hc => ?_) (fun hc => ?_)
  · have h := ite_t h hc
    exact h
  · have h := ite_f h hc
    refine pw_iload_n dc_Mod_queued_8 rfl ?_
    refine pw_iconst (v := 1) dc_Mod_queued_9 (by decide) ?_
    refine pw_iconst (v := 4) dc_Mod_queued_10 (by decide) ?_
    refine pw_callS (vs := [.int x2, .int 1, .int 4]) (st := [.ref x0]) dc_Mod_queued_11 cq_Mod_isIn (List.mem_of_getElem? (i := 1132) (by decide +kernel)) (List.mem_of_getElem? (i := 1131) (by decide +kernel)) rfl rfl (cat_cons rfl (cat_cons rfl (cat_cons rfl (cat_nil)))) (Nat.le_of_ble_eq_true rfl) (PW.mono (kI_kN (fun r2 σ2 h => ?_)) h)
    refine pw_if_eq (tgt := 21) dc_Mod_queued_14 (by decide) (fun hc => ?_) (fun hc => ?_)
    · have h := ite_t h hc
      exact h
    · have h := ite_f h hc
      refine pw_iconst (v := 0) dc_Mod_queued_17 (by decide) ?_
      refine pw_goto (tgt := 22) dc_Mod_queued_18 (by decide) ?_
      exact h
set_option maxRecDepth 20000 in
theorem e_Mod_queued_21 {d : Nat} {σ : PH} {K : PO → PH → Prop} (x0 : Nat) (x1 : Int32) (x2 : Int32) (y0 : Nat) (h : PW (d + 1) M_Mod_queued 22 [.ref x0, .int x1, .int x2, uu, uu] [.int 1, .ref y0] σ K) : PW (d + 1) M_Mod_queued 21 [.ref x0, .int x1, .int x2, uu, uu] [.ref y0] σ K := by
  refine pw_iconst (v := 1) dc_Mod_queued_21 (by decide) ?_
  exact h
set_option maxRecDepth 20000 in
theorem e_Mod_queued_22 {d : Nat} {σ : PH} {K : PO → PH → Prop} (x0 : Nat) (x1 : Int32) (x2 : Int32) (y0 : Int32) (y1 : Nat) (h : sh σ y1 = (1, 11) ∧ PW d M_Mod_refused 0 [.ref y1, .int y0] [] σ (kI (fun r1 σ1 => (if r1 = 0 then PW (d + 1) M_Mod_queued 35 [.ref x0, .int x1, .int x2, .int 0, .int 1] [] σ1 K else K (.inl (some (.int 0))) σ1)) K)) : PW (d + 1) M_Mod_queued 22 [.ref x0, .int x1, .int x2, uu, uu] [.int y0, .ref y1] σ K := by
  obtain ⟨hs1, h⟩ := h
  refine pw_callV (vs := [.int y0]) (st := []) (b := y1) (cn := 11) dc_Mod_queued_22 cq_Mod_refused (List.mem_of_getElem? (i := 1136) (by decide +kernel)) (List.mem_of_getElem? (i := 26) (by decide +kernel)) (List.mem_of_getElem? (i := 1134) (by decide +kernel)) rfl hs1 rfl rfl (by decide) (cat_cons rfl (cat_nil)) (Nat.le_of_ble_eq_true rfl) (PW.mono (kI_kN (fun r1 σ1 h => ?_)) h)
  refine pw_if_eq (tgt := 30) dc_Mod_queued_25 (by decide) (fun hc => ?_) (fun hc => ?_)
  · have h := ite_t h hc
    refine pw_iconst (v := 0) dc_Mod_queued_30 (by decide) ?_
    refine pw_istore_n dc_Mod_queued_31 (by decide) ?_
    refine pw_iconst (v := 1) dc_Mod_queued_32 (by decide) ?_
    refine pw_istore dc_Mod_queued_33 (by decide) ?_
    exact h
  · have h := ite_f h hc
    refine pw_iconst (v := 0) dc_Mod_queued_28 (by decide) ?_
    exact pw_iret dc_Mod_queued_29 rfl rfl h
set_option maxRecDepth 20000 in
theorem e_Mod_queued_35 {d : Nat} {σ : PH} {K : PO → PH → Prop} (x0 : Nat) (x1 : Int32) (x2 : Int32) (x3 : Int32) (x4 : Int32) (h : sh σ x0 = (1, 11) ∧ (if (gI σ 719 x0) < x4 then K (.inl (some (.int x3))) σ else (∃ b1 : Nat, gR σ 725 x0 = some b1 ∧ (∃ n1 : Nat, sh σ b1 = (2, n1) ∧ vp_in ((8 * x4) + x1) n1 ∧ (if (eI σ b1 (ix ((8 * x4) + x1))) = 1 then (∃ b2 : Nat, gR σ 720 x0 = some b2 ∧ (∃ n2 : Nat, sh σ b2 = (2, n2) ∧ vp_in x4 n2 ∧ (if (eI σ b2 (ix x4)) = x2 then PW (d + 1) M_Mod_queued 78 [.ref x0, .int x1, .int x2, uu, .int x4] [.int (x3 + 1)] σ K else PW (d + 1) M_Mod_queued 77 [.ref x0, .int x1, .int x2, .int x3, .int x4] [] σ K))) else PW (d + 1) M_Mod_queued 77 [.ref x0, .int x1, .int x2, .int x3, .int x4] [] σ K))))) : PW (d + 1) M_Mod_queued 35 [.ref x0, .int x1, .int x2, .int x3, .int x4] [] σ K := by
  refine pw_iload dc_Mod_queued_35 rfl ?_
  refine pw_aload_n dc_Mod_queued_37 rfl rfl ?_
  obtain ⟨hs1, h⟩ := h
  refine pw_getI (c := 11) (k := 15) (f := 719) dc_Mod_queued_38 fl_Mod_247 rfl rfl hs1 ?_
  refine pw_icmp_gt (tgt := 85) dc_Mod_queued_41 (by decide) (fun hc => ?_) (fun hc => ?_)
  · have h := ite_t h hc
    refine pw_iload_n dc_Mod_queued_85 rfl ?_
    exact pw_iret dc_Mod_queued_86 rfl rfl h
  · have h := ite_f h hc
    refine pw_aload_n dc_Mod_queued_44 rfl rfl ?_
    refine pw_getR (c := 11) (k := 21) (f := 725) dc_Mod_queued_45 fl_Mod_67 rfl rfl hs1 ?_
    obtain ⟨b1, hb1, h⟩ := h
    refine PW.top (v' := .ref b1) (congrArg va_rf hb1) ?_
    refine pw_bipush (v := 8) dc_Mod_queued_48 (by decide) ?_
    refine pw_iload dc_Mod_queued_50 rfl ?_
    refine pw_imul dc_Mod_queued_52 ?_
    refine pw_iload_n dc_Mod_queued_53 rfl ?_
    refine pw_iadd dc_Mod_queued_54 ?_
    obtain ⟨n1, hs2, h⟩ := h
    obtain ⟨hi1, h⟩ := h
    refine pw_iald dc_Mod_queued_55 hs2 hi1 ?_
    refine pw_iconst (v := 1) dc_Mod_queued_56 (by decide) ?_
    refine pw_icmp_ne (tgt := 77) dc_Mod_queued_57 (by decide) (fun hc => ?_) (fun hc => ?_)
    · have h := ite_f h hc
      exact h
    · have h := ite_t h hc
      refine pw_aload_n dc_Mod_queued_60 rfl rfl ?_
      refine pw_getR (c := 11) (k := 16) (f := 720) dc_Mod_queued_61 fl_Mod_52 rfl rfl hs1 ?_
      obtain ⟨b2, hb2, h⟩ := h
      refine PW.top (v' := .ref b2) (congrArg va_rf hb2) ?_
      refine pw_iload dc_Mod_queued_64 rfl ?_
      obtain ⟨n2, hs3, h⟩ := h
      obtain ⟨hi2, h⟩ := h
      refine pw_iald dc_Mod_queued_66 hs3 hi2 ?_
      refine pw_iload_n dc_Mod_queued_67 rfl ?_
      refine pw_icmp_ne (tgt := 77) dc_Mod_queued_68 (by decide) (fun hc => ?_) (fun hc => ?_)
      · have h := ite_f h hc
        exact h
      · have h := ite_t h hc
        refine pw_iload_n dc_Mod_queued_71 rfl ?_
        refine pw_iconst (v := 1) dc_Mod_queued_72 (by decide) ?_
        refine pw_iadd dc_Mod_queued_73 ?_
        refine pw_goto (tgt := 78) dc_Mod_queued_74 (by decide) ?_
        refine PW.drop (ls' := [.ref x0, .int x1, .int x2, uu, .int x4]) ⟨Or.inl rfl, Or.inl rfl, Or.inl rfl, Or.inr rfl, Or.inl rfl, trivial⟩ ?_
        exact h
set_option maxRecDepth 20000 in
theorem e_Mod_queued_77 {d : Nat} {σ : PH} {K : PO → PH → Prop} (x0 : Nat) (x1 : Int32) (x2 : Int32) (x3 : Int32) (x4 : Int32) (h : PW (d + 1) M_Mod_queued 78 [.ref x0, .int x1, .int x2, uu, .int x4] [.int x3] σ K) : PW (d + 1) M_Mod_queued 77 [.ref x0, .int x1, .int x2, .int x3, .int x4] [] σ K := by
  refine pw_iload_n dc_Mod_queued_77 rfl ?_
  refine PW.drop (ls' := [.ref x0, .int x1, .int x2, uu, .int x4]) ⟨Or.inl rfl, Or.inl rfl, Or.inl rfl, Or.inr rfl, Or.inl rfl, trivial⟩ ?_
  exact h
set_option maxRecDepth 20000 in
theorem e_Mod_queued_78 {d : Nat} {σ : PH} {K : PO → PH → Prop} (x0 : Nat) (x1 : Int32) (x2 : Int32) (x4 : Int32) (y0 : Int32) (h : PW (d + 1) M_Mod_queued 35 [.ref x0, .int x1, .int x2, .int y0, .int (x4 + 1)] [] σ K) : PW (d + 1) M_Mod_queued 78 [.ref x0, .int x1, .int x2, uu, .int x4] [.int y0] σ K := by
  refine pw_istore_n dc_Mod_queued_78 (by decide) ?_
  refine pw_iincv (v := 1) dc_Mod_queued_79 (by decide) rfl (by decide) ?_
  refine pw_goto (tgt := 35) dc_Mod_queued_82 (by decide) ?_
  exact h
theorem dc_Mod_trace_0 : decode M_Mod_trace.2.1 0 = .ok (.aload_n 0, 1) := by decide +kernel
theorem dc_Mod_trace_1 : decode M_Mod_trace.2.1 1 = .ok (.iload_n 1, 1) := by decide +kernel
theorem dc_Mod_trace_2 : decode M_Mod_trace.2.1 2 = .ok (.iconst 1, 1) := by decide +kernel
theorem dc_Mod_trace_3 : decode M_Mod_trace.2.1 3 = .ok (.aload_n 0, 1) := by decide +kernel
theorem dc_Mod_trace_4 : decode M_Mod_trace.2.1 4 = .ok (.getfield 247, 3) := by decide +kernel
theorem dc_Mod_trace_7 : decode M_Mod_trace.2.1 7 = .ok (.invokestatic 140, 3) := by decide +kernel
theorem dc_Mod_trace_10 : decode M_Mod_trace.2.1 10 = .ok (.ifCond .eq 14, 3) := by decide +kernel
theorem dc_Mod_trace_13 : decode M_Mod_trace.2.1 13 = .ok (.iload_n 2, 1) := by decide +kernel
theorem dc_Mod_trace_14 : decode M_Mod_trace.2.1 14 = .ok (.invokestatic 160, 3) := by decide +kernel
theorem dc_Mod_trace_17 : decode M_Mod_trace.2.1 17 = .ok (.ifCond .eq 7, 3) := by decide +kernel
theorem dc_Mod_trace_20 : decode M_Mod_trace.2.1 20 = .ok (.iconst 0, 1) := by decide +kernel
theorem dc_Mod_trace_21 : decode M_Mod_trace.2.1 21 = .ok (.goto 4, 3) := by decide +kernel
theorem dc_Mod_trace_24 : decode M_Mod_trace.2.1 24 = .ok (.iconst 1, 1) := by decide +kernel
theorem dc_Mod_trace_25 : decode M_Mod_trace.2.1 25 = .ok (.invokevirtual 164, 3) := by decide +kernel
theorem dc_Mod_trace_28 : decode M_Mod_trace.2.1 28 = .ok (.ifCond .eq 5, 3) := by decide +kernel
theorem dc_Mod_trace_31 : decode M_Mod_trace.2.1 31 = .ok (.iconst 0, 1) := by decide +kernel
theorem dc_Mod_trace_32 : decode M_Mod_trace.2.1 32 = .ok (.ireturn, 1) := by decide +kernel
theorem dc_Mod_trace_33 : decode M_Mod_trace.2.1 33 = .ok (.aload_n 0, 1) := by decide +kernel
theorem dc_Mod_trace_34 : decode M_Mod_trace.2.1 34 = .ok (.getfield 67, 3) := by decide +kernel
theorem dc_Mod_trace_37 : decode M_Mod_trace.2.1 37 = .ok (.bipush 8, 2) := by decide +kernel
theorem dc_Mod_trace_39 : decode M_Mod_trace.2.1 39 = .ok (.iload_n 1, 1) := by decide +kernel
theorem dc_Mod_trace_40 : decode M_Mod_trace.2.1 40 = .ok (.imul, 1) := by decide +kernel
theorem dc_Mod_trace_41 : decode M_Mod_trace.2.1 41 = .ok (.iload_n 2, 1) := by decide +kernel
theorem dc_Mod_trace_42 : decode M_Mod_trace.2.1 42 = .ok (.iadd, 1) := by decide +kernel
theorem dc_Mod_trace_43 : decode M_Mod_trace.2.1 43 = .ok (.iaload, 1) := by decide +kernel
theorem dc_Mod_trace_44 : decode M_Mod_trace.2.1 44 = .ok (.istore_n 3, 1) := by decide +kernel
theorem dc_Mod_trace_45 : decode M_Mod_trace.2.1 45 = .ok (.iload_n 3, 1) := by decide +kernel
theorem dc_Mod_trace_46 : decode M_Mod_trace.2.1 46 = .ok (.ifCond .ne 7, 3) := by decide +kernel
theorem dc_Mod_trace_49 : decode M_Mod_trace.2.1 49 = .ok (.iconst 0, 1) := by decide +kernel
theorem dc_Mod_trace_50 : decode M_Mod_trace.2.1 50 = .ok (.goto 23, 3) := by decide +kernel
theorem dc_Mod_trace_53 : decode M_Mod_trace.2.1 53 = .ok (.iload_n 3, 1) := by decide +kernel
theorem dc_Mod_trace_54 : decode M_Mod_trace.2.1 54 = .ok (.iconst 3, 1) := by decide +kernel
theorem dc_Mod_trace_55 : decode M_Mod_trace.2.1 55 = .ok (.if_icmp .ne 17, 3) := by decide +kernel
theorem dc_Mod_trace_58 : decode M_Mod_trace.2.1 58 = .ok (.aload_n 0, 1) := by decide +kernel
theorem dc_Mod_trace_59 : decode M_Mod_trace.2.1 59 = .ok (.getfield 70, 3) := by decide +kernel
theorem dc_Mod_trace_62 : decode M_Mod_trace.2.1 62 = .ok (.bipush 8, 2) := by decide +kernel
theorem dc_Mod_trace_64 : decode M_Mod_trace.2.1 64 = .ok (.iload_n 1, 1) := by decide +kernel
theorem dc_Mod_trace_65 : decode M_Mod_trace.2.1 65 = .ok (.imul, 1) := by decide +kernel
theorem dc_Mod_trace_66 : decode M_Mod_trace.2.1 66 = .ok (.iload_n 2, 1) := by decide +kernel
theorem dc_Mod_trace_67 : decode M_Mod_trace.2.1 67 = .ok (.iadd, 1) := by decide +kernel
theorem dc_Mod_trace_68 : decode M_Mod_trace.2.1 68 = .ok (.iaload, 1) := by decide +kernel
theorem dc_Mod_trace_69 : decode M_Mod_trace.2.1 69 = .ok (.goto 4, 3) := by decide +kernel
theorem dc_Mod_trace_72 : decode M_Mod_trace.2.1 72 = .ok (.iconst (-1), 1) := by decide +kernel
theorem dc_Mod_trace_73 : decode M_Mod_trace.2.1 73 = .ok (.ireturn, 1) := by decide +kernel
set_option maxRecDepth 20000 in
theorem e_Mod_trace_0 {d : Nat} {σ : PH} {K : PO → PH → Prop} (x0 : Nat) (x1 : Int32) (x2 : Int32) (h : sh σ x0 = (1, 11) ∧ PW d M_Mod_isIn 0 [.int x1, .int 1, .int (gI σ 719 x0)] [] σ (kI (fun r1 σ1 => (if r1 = 0 then PW (d + 1) M_Mod_trace 24 [.ref x0, .int x1, .int x2, uu] [.ref x0] σ1 K else PW d M_Mod_isChannel 0 [.int x2] [] σ1 (kI (fun r2 σ2 => (if r2 = 0 then PW (d + 1) M_Mod_trace 24 [.ref x0, .int x1, .int x2, uu] [.ref x0] σ2 K else PW (d + 1) M_Mod_trace 25 [.ref x0, .int x1, .int x2, uu] [.int 0, .ref x0] σ2 K)) K))) K)) : PW (d + 1) M_Mod_trace 0 [.ref x0, .int x1, .int x2, uu] [] σ K := by
  refine pw_aload_n dc_Mod_trace_0 rfl rfl ?_
  refine pw_iload_n dc_Mod_trace_1 rfl ?_
  refine pw_iconst (v := 1) dc_Mod_trace_2 (by decide) ?_
  refine pw_aload_n dc_Mod_trace_3 rfl rfl ?_
  obtain ⟨hs1, h⟩ := h
  refine pw_getI (c := 11) (k := 15) (f := 719) dc_Mod_trace_4 fl_Mod_247 rfl rfl hs1 ?_
  refine pw_callS (vs := [.int x1, .int 1, .int (gI σ 719 x0)]) (st := [.ref x0]) dc_Mod_trace_7 cq_Mod_isIn (List.mem_of_getElem? (i := 1132) (by decide +kernel)) (List.mem_of_getElem? (i := 1131) (by decide +kernel)) rfl rfl (cat_cons rfl (cat_cons rfl (cat_cons rfl (cat_nil)))) (Nat.le_of_ble_eq_true rfl) (PW.mono (kI_kN (fun r1 σ1 h => ?_)) h)
  refine pw_if_eq (tgt := 24) dc_Mod_trace_10 (by decide) (fun hc => ?_) (fun hc => ?_)
  · have h := ite_t h hc
    exact h
  · have h := ite_f h hc
    refine pw_iload_n dc_Mod_trace_13 rfl ?_
    refine pw_callS (vs := [.int x2]) (st := [.ref x0]) dc_Mod_trace_14 cq_Mod_isChannel (List.mem_of_getElem? (i := 1129) (by decide +kernel)) (List.mem_of_getElem? (i := 1128) (by decide +kernel)) rfl rfl (cat_cons rfl (cat_nil)) (Nat.le_of_ble_eq_true rfl) (PW.mono (kI_kN (fun r2 σ2 h => ?_)) h)
    refine pw_if_eq (tgt := 24) dc_Mod_trace_17 (by decide) (fun hc => ?_) (fun hc => ?_)
    · have h := ite_t h hc
      exact h
    · have h := ite_f h hc
      refine pw_iconst (v := 0) dc_Mod_trace_20 (by decide) ?_
      refine pw_goto (tgt := 25) dc_Mod_trace_21 (by decide) ?_
      exact h
set_option maxRecDepth 20000 in
theorem e_Mod_trace_24 {d : Nat} {σ : PH} {K : PO → PH → Prop} (x0 : Nat) (x1 : Int32) (x2 : Int32) (y0 : Nat) (h : PW (d + 1) M_Mod_trace 25 [.ref x0, .int x1, .int x2, uu] [.int 1, .ref y0] σ K) : PW (d + 1) M_Mod_trace 24 [.ref x0, .int x1, .int x2, uu] [.ref y0] σ K := by
  refine pw_iconst (v := 1) dc_Mod_trace_24 (by decide) ?_
  exact h
set_option maxRecDepth 20000 in
theorem e_Mod_trace_25 {d : Nat} {σ : PH} {K : PO → PH → Prop} (x0 : Nat) (x1 : Int32) (x2 : Int32) (y0 : Int32) (y1 : Nat) (h : sh σ y1 = (1, 11) ∧ PW d M_Mod_refused 0 [.ref y1, .int y0] [] σ (kI (fun r1 σ1 => (if r1 = 0 then sh σ1 x0 = (1, 11) ∧ (∃ b1 : Nat, gR σ1 725 x0 = some b1 ∧ (∃ n1 : Nat, sh σ1 b1 = (2, n1) ∧ vp_in ((8 * x1) + x2) n1 ∧ (if (eI σ1 b1 (ix ((8 * x1) + x2))) = 0 then K (.inl (some (.int 0))) σ1 else (if (eI σ1 b1 (ix ((8 * x1) + x2))) = 3 then (∃ b2 : Nat, gR σ1 726 x0 = some b2 ∧ (∃ n2 : Nat, sh σ1 b2 = (2, n2) ∧ vp_in ((8 * x1) + x2) n2 ∧ K (.inl (some (.int (eI σ1 b2 (ix ((8 * x1) + x2)))))) σ1)) else K (.inl (some (.int ((-1))))) σ1)))) else K (.inl (some (.int 0))) σ1)) K)) : PW (d + 1) M_Mod_trace 25 [.ref x0, .int x1, .int x2, uu] [.int y0, .ref y1] σ K := by
  obtain ⟨hs1, h⟩ := h
  refine pw_callV (vs := [.int y0]) (st := []) (b := y1) (cn := 11) dc_Mod_trace_25 cq_Mod_refused (List.mem_of_getElem? (i := 1136) (by decide +kernel)) (List.mem_of_getElem? (i := 26) (by decide +kernel)) (List.mem_of_getElem? (i := 1134) (by decide +kernel)) rfl hs1 rfl rfl (by decide) (cat_cons rfl (cat_nil)) (Nat.le_of_ble_eq_true rfl) (PW.mono (kI_kN (fun r1 σ1 h => ?_)) h)
  refine pw_if_eq (tgt := 33) dc_Mod_trace_28 (by decide) (fun hc => ?_) (fun hc => ?_)
  · have h := ite_t h hc
    refine pw_aload_n dc_Mod_trace_33 rfl rfl ?_
    obtain ⟨hs2, h⟩ := h
    refine pw_getR (c := 11) (k := 21) (f := 725) dc_Mod_trace_34 fl_Mod_67 rfl rfl hs2 ?_
    obtain ⟨b1, hb1, h⟩ := h
    refine PW.top (v' := .ref b1) (congrArg va_rf hb1) ?_
    refine pw_bipush (v := 8) dc_Mod_trace_37 (by decide) ?_
    refine pw_iload_n dc_Mod_trace_39 rfl ?_
    refine pw_imul dc_Mod_trace_40 ?_
    refine pw_iload_n dc_Mod_trace_41 rfl ?_
    refine pw_iadd dc_Mod_trace_42 ?_
    obtain ⟨n1, hs3, h⟩ := h
    obtain ⟨hi1, h⟩ := h
    refine pw_iald dc_Mod_trace_43 hs3 hi1 ?_
    refine pw_istore_n dc_Mod_trace_44 (by decide) ?_
    refine pw_iload_n dc_Mod_trace_45 rfl ?_
    refine pw_if_ne (tgt := 53) dc_Mod_trace_46 (by decide) (fun hc => ?_) (fun hc => ?_)
    · have h := ite_f h hc
      refine pw_iload_n dc_Mod_trace_53 rfl ?_
      refine pw_iconst (v := 3) dc_Mod_trace_54 (by decide) ?_
      refine pw_icmp_ne (tgt := 72) dc_Mod_trace_55 (by decide) (fun hc => ?_) (fun hc => ?_)
      · have h := ite_f h hc
        refine pw_iconst (v := (-1)) dc_Mod_trace_72 (by decide) ?_
        exact pw_iret dc_Mod_trace_73 rfl rfl h
      · have h := ite_t h hc
        refine pw_aload_n dc_Mod_trace_58 rfl rfl ?_
        refine pw_getR (c := 11) (k := 22) (f := 726) dc_Mod_trace_59 fl_Mod_70 rfl rfl hs2 ?_
        obtain ⟨b2, hb2, h⟩ := h
        refine PW.top (v' := .ref b2) (congrArg va_rf hb2) ?_
        refine pw_bipush (v := 8) dc_Mod_trace_62 (by decide) ?_
        refine pw_iload_n dc_Mod_trace_64 rfl ?_
        refine pw_imul dc_Mod_trace_65 ?_
        refine pw_iload_n dc_Mod_trace_66 rfl ?_
        refine pw_iadd dc_Mod_trace_67 ?_
        obtain ⟨n2, hs4, h⟩ := h
        obtain ⟨hi2, h⟩ := h
        refine pw_iald dc_Mod_trace_68 hs4 hi2 ?_
        refine pw_goto (tgt := 73) dc_Mod_trace_69 (by decide) ?_
        exact pw_iret dc_Mod_trace_73 rfl rfl h
    · have h := ite_t h hc
      refine pw_iconst (v := 0) dc_Mod_trace_49 (by decide) ?_
      refine pw_goto (tgt := 73) dc_Mod_trace_50 (by decide) ?_
      exact pw_iret dc_Mod_trace_73 rfl rfl h
  · have h := ite_f h hc
    refine pw_iconst (v := 0) dc_Mod_trace_31 (by decide) ?_
    exact pw_iret dc_Mod_trace_32 rfl rfl h
theorem dc_Mod_isCase_0 : decode M_Mod_isCase.2.1 0 = .ok (.iload_n 1, 1) := by decide +kernel
theorem dc_Mod_isCase_1 : decode M_Mod_isCase.2.1 1 = .ok (.iconst 1, 1) := by decide +kernel
theorem dc_Mod_isCase_2 : decode M_Mod_isCase.2.1 2 = .ok (.aload_n 0, 1) := by decide +kernel
theorem dc_Mod_isCase_3 : decode M_Mod_isCase.2.1 3 = .ok (.getfield 235, 3) := by decide +kernel
theorem dc_Mod_isCase_6 : decode M_Mod_isCase.2.1 6 = .ok (.invokestatic 140, 3) := by decide +kernel
theorem dc_Mod_isCase_9 : decode M_Mod_isCase.2.1 9 = .ok (.ireturn, 1) := by decide +kernel
set_option maxRecDepth 20000 in
theorem e_Mod_isCase_0 {d : Nat} {σ : PH} {K : PO → PH → Prop} (x0 : Nat) (x1 : Int32) (h : sh σ x0 = (1, 11) ∧ PW d M_Mod_isIn 0 [.int x1, .int 1, .int (gI σ 727 x0)] [] σ (kI (fun r1 σ1 => bo r1 ∧ K (.inl (some (.int r1))) σ1) K)) : PW (d + 1) M_Mod_isCase 0 [.ref x0, .int x1] [] σ K := by
  refine pw_iload_n dc_Mod_isCase_0 rfl ?_
  refine pw_iconst (v := 1) dc_Mod_isCase_1 (by decide) ?_
  refine pw_aload_n dc_Mod_isCase_2 rfl rfl ?_
  obtain ⟨hs1, h⟩ := h
  refine pw_getI (c := 11) (k := 23) (f := 727) dc_Mod_isCase_3 fl_Mod_235 rfl rfl hs1 ?_
  refine pw_callS (vs := [.int x1, .int 1, .int (gI σ 727 x0)]) (st := []) dc_Mod_isCase_6 cq_Mod_isIn (List.mem_of_getElem? (i := 1132) (by decide +kernel)) (List.mem_of_getElem? (i := 1131) (by decide +kernel)) rfl rfl (cat_cons rfl (cat_cons rfl (cat_cons rfl (cat_nil)))) (Nat.le_of_ble_eq_true rfl) (PW.mono (kI_kN (fun r1 σ1 h => ?_)) h)
  exact pw_iret dc_Mod_isCase_9 rfl (bo_nar h.1) h.2
theorem dc_Mod_reason_0 : decode M_Mod_reason.2.1 0 = .ok (.aload_n 0, 1) := by decide +kernel
theorem dc_Mod_reason_1 : decode M_Mod_reason.2.1 1 = .ok (.aload_n 0, 1) := by decide +kernel
theorem dc_Mod_reason_2 : decode M_Mod_reason.2.1 2 = .ok (.iload_n 1, 1) := by decide +kernel
theorem dc_Mod_reason_3 : decode M_Mod_reason.2.1 3 = .ok (.invokevirtual 319, 3) := by decide +kernel
theorem dc_Mod_reason_6 : decode M_Mod_reason.2.1 6 = .ok (.ifCond .eq 7, 3) := by decide +kernel
theorem dc_Mod_reason_9 : decode M_Mod_reason.2.1 9 = .ok (.iconst 0, 1) := by decide +kernel
theorem dc_Mod_reason_10 : decode M_Mod_reason.2.1 10 = .ok (.goto 4, 3) := by decide +kernel
theorem dc_Mod_reason_13 : decode M_Mod_reason.2.1 13 = .ok (.iconst 1, 1) := by decide +kernel
theorem dc_Mod_reason_14 : decode M_Mod_reason.2.1 14 = .ok (.invokevirtual 164, 3) := by decide +kernel
theorem dc_Mod_reason_17 : decode M_Mod_reason.2.1 17 = .ok (.ifCond .eq 7, 3) := by decide +kernel
theorem dc_Mod_reason_20 : decode M_Mod_reason.2.1 20 = .ok (.iconst 0, 1) := by decide +kernel
theorem dc_Mod_reason_21 : decode M_Mod_reason.2.1 21 = .ok (.goto 9, 3) := by decide +kernel
theorem dc_Mod_reason_24 : decode M_Mod_reason.2.1 24 = .ok (.aload_n 0, 1) := by decide +kernel
theorem dc_Mod_reason_25 : decode M_Mod_reason.2.1 25 = .ok (.getfield 73, 3) := by decide +kernel
theorem dc_Mod_reason_28 : decode M_Mod_reason.2.1 28 = .ok (.iload_n 1, 1) := by decide +kernel
theorem dc_Mod_reason_29 : decode M_Mod_reason.2.1 29 = .ok (.iaload, 1) := by decide +kernel
theorem dc_Mod_reason_30 : decode M_Mod_reason.2.1 30 = .ok (.ireturn, 1) := by decide +kernel
set_option maxRecDepth 20000 in
theorem e_Mod_reason_0 {d : Nat} {σ : PH} {K : PO → PH → Prop} (x0 : Nat) (x1 : Int32) (h : sh σ x0 = (1, 11) ∧ PW d M_Mod_isCase 0 [.ref x0, .int x1] [] σ (kI (fun r1 σ1 => (if r1 = 0 then PW (d + 1) M_Mod_reason 14 [.ref x0, .int x1] [.int 1, .ref x0] σ1 K else PW (d + 1) M_Mod_reason 14 [.ref x0, .int x1] [.int 0, .ref x0] σ1 K)) K)) : PW (d + 1) M_Mod_reason 0 [.ref x0, .int x1] [] σ K := by
  refine pw_aload_n dc_Mod_reason_0 rfl rfl ?_
  refine pw_aload_n dc_Mod_reason_1 rfl rfl ?_
  refine pw_iload_n dc_Mod_reason_2 rfl ?_
  obtain ⟨hs1, h⟩ := h
  refine pw_callV (vs := [.int x1]) (st := [.ref x0]) (b := x0) (cn := 11) dc_Mod_reason_3 cq_Mod_isCase (List.mem_of_getElem? (i := 1327) (by decide +kernel)) (List.mem_of_getElem? (i := 59) (by decide +kernel)) (List.mem_of_getElem? (i := 1325) (by decide +kernel)) rfl hs1 rfl rfl (by decide) (cat_cons rfl (cat_nil)) (Nat.le_of_ble_eq_true rfl) (PW.mono (kI_kN (fun r1 σ1 h => ?_)) h)
  refine pw_if_eq (tgt := 13) dc_Mod_reason_6 (by decide) (fun hc => ?_) (fun hc => ?_)
  · have h := ite_t h hc
    refine pw_iconst (v := 1) dc_Mod_reason_13 (by decide) ?_
    exact h
  · have h := ite_f h hc
    refine pw_iconst (v := 0) dc_Mod_reason_9 (by decide) ?_
    refine pw_goto (tgt := 14) dc_Mod_reason_10 (by decide) ?_
    exact h
set_option maxRecDepth 20000 in
theorem e_Mod_reason_14 {d : Nat} {σ : PH} {K : PO → PH → Prop} (x0 : Nat) (x1 : Int32) (y0 : Int32) (y1 : Nat) (h : sh σ y1 = (1, 11) ∧ PW d M_Mod_refused 0 [.ref y1, .int y0] [] σ (kI (fun r1 σ1 => (if r1 = 0 then sh σ1 x0 = (1, 11) ∧ (∃ b1 : Nat, gR σ1 728 x0 = some b1 ∧ (∃ n1 : Nat, sh σ1 b1 = (2, n1) ∧ vp_in x1 n1 ∧ K (.inl (some (.int (eI σ1 b1 (ix x1))))) σ1)) else K (.inl (some (.int 0))) σ1)) K)) : PW (d + 1) M_Mod_reason 14 [.ref x0, .int x1] [.int y0, .ref y1] σ K := by
  obtain ⟨hs1, h⟩ := h
  refine pw_callV (vs := [.int y0]) (st := []) (b := y1) (cn := 11) dc_Mod_reason_14 cq_Mod_refused (List.mem_of_getElem? (i := 1136) (by decide +kernel)) (List.mem_of_getElem? (i := 26) (by decide +kernel)) (List.mem_of_getElem? (i := 1134) (by decide +kernel)) rfl hs1 rfl rfl (by decide) (cat_cons rfl (cat_nil)) (Nat.le_of_ble_eq_true rfl) (PW.mono (kI_kN (fun r1 σ1 h => ?_)) h)
  refine pw_if_eq (tgt := 24) dc_Mod_reason_17 (by decide) (fun hc => ?_) (fun hc => ?_)
  · have h := ite_t h hc
    refine pw_aload_n dc_Mod_reason_24 rfl rfl ?_
    obtain ⟨hs2, h⟩ := h
    refine pw_getR (c := 11) (k := 24) (f := 728) dc_Mod_reason_25 fl_Mod_73 rfl rfl hs2 ?_
    obtain ⟨b1, hb1, h⟩ := h
    refine PW.top (v' := .ref b1) (congrArg va_rf hb1) ?_
    refine pw_iload_n dc_Mod_reason_28 rfl ?_
    obtain ⟨n1, hs3, h⟩ := h
    obtain ⟨hi1, h⟩ := h
    refine pw_iald dc_Mod_reason_29 hs3 hi1 ?_
    exact pw_iret dc_Mod_reason_30 rfl rfl h
  · have h := ite_f h hc
    refine pw_iconst (v := 0) dc_Mod_reason_20 (by decide) ?_
    refine pw_goto (tgt := 30) dc_Mod_reason_21 (by decide) ?_
    exact pw_iret dc_Mod_reason_30 rfl rfl h
theorem dc_Mod_clerk_0 : decode M_Mod_clerk.2.1 0 = .ok (.aload_n 0, 1) := by decide +kernel
theorem dc_Mod_clerk_1 : decode M_Mod_clerk.2.1 1 = .ok (.iload_n 1, 1) := by decide +kernel
theorem dc_Mod_clerk_2 : decode M_Mod_clerk.2.1 2 = .ok (.invokevirtual 319, 3) := by decide +kernel
theorem dc_Mod_clerk_5 : decode M_Mod_clerk.2.1 5 = .ok (.ifCond .eq 14, 3) := by decide +kernel
theorem dc_Mod_clerk_8 : decode M_Mod_clerk.2.1 8 = .ok (.iload_n 2, 1) := by decide +kernel
theorem dc_Mod_clerk_9 : decode M_Mod_clerk.2.1 9 = .ok (.invokestatic 322, 3) := by decide +kernel
theorem dc_Mod_clerk_12 : decode M_Mod_clerk.2.1 12 = .ok (.ifCond .eq 7, 3) := by decide +kernel
theorem dc_Mod_clerk_15 : decode M_Mod_clerk.2.1 15 = .ok (.iconst 1, 1) := by decide +kernel
theorem dc_Mod_clerk_16 : decode M_Mod_clerk.2.1 16 = .ok (.goto 4, 3) := by decide +kernel
theorem dc_Mod_clerk_19 : decode M_Mod_clerk.2.1 19 = .ok (.iconst 0, 1) := by decide +kernel
theorem dc_Mod_clerk_20 : decode M_Mod_clerk.2.1 20 = .ok (.istore_n 3, 1) := by decide +kernel
theorem dc_Mod_clerk_21 : decode M_Mod_clerk.2.1 21 = .ok (.aload_n 0, 1) := by decide +kernel
theorem dc_Mod_clerk_22 : decode M_Mod_clerk.2.1 22 = .ok (.iload_n 3, 1) := by decide +kernel
theorem dc_Mod_clerk_23 : decode M_Mod_clerk.2.1 23 = .ok (.ifCond .ne 7, 3) := by decide +kernel
theorem dc_Mod_clerk_26 : decode M_Mod_clerk.2.1 26 = .ok (.iconst 1, 1) := by decide +kernel
theorem dc_Mod_clerk_27 : decode M_Mod_clerk.2.1 27 = .ok (.goto 28, 3) := by decide +kernel
theorem dc_Mod_clerk_30 : decode M_Mod_clerk.2.1 30 = .ok (.aload_n 0, 1) := by decide +kernel
theorem dc_Mod_clerk_31 : decode M_Mod_clerk.2.1 31 = .ok (.getfield 73, 3) := by decide +kernel
theorem dc_Mod_clerk_34 : decode M_Mod_clerk.2.1 34 = .ok (.iload_n 1, 1) := by decide +kernel
theorem dc_Mod_clerk_35 : decode M_Mod_clerk.2.1 35 = .ok (.iaload, 1) := by decide +kernel
theorem dc_Mod_clerk_36 : decode M_Mod_clerk.2.1 36 = .ok (.ifCond .eq 14, 3) := by decide +kernel
theorem dc_Mod_clerk_39 : decode M_Mod_clerk.2.1 39 = .ok (.aload_n 0, 1) := by decide +kernel
theorem dc_Mod_clerk_40 : decode M_Mod_clerk.2.1 40 = .ok (.getfield 76, 3) := by decide +kernel
theorem dc_Mod_clerk_43 : decode M_Mod_clerk.2.1 43 = .ok (.iload_n 1, 1) := by decide +kernel
theorem dc_Mod_clerk_44 : decode M_Mod_clerk.2.1 44 = .ok (.iaload, 1) := by decide +kernel
theorem dc_Mod_clerk_45 : decode M_Mod_clerk.2.1 45 = .ok (.bipush 60, 2) := by decide +kernel
theorem dc_Mod_clerk_47 : decode M_Mod_clerk.2.1 47 = .ok (.if_icmp .ne 7, 3) := by decide +kernel
theorem dc_Mod_clerk_50 : decode M_Mod_clerk.2.1 50 = .ok (.iconst 2, 1) := by decide +kernel
theorem dc_Mod_clerk_51 : decode M_Mod_clerk.2.1 51 = .ok (.goto 4, 3) := by decide +kernel
theorem dc_Mod_clerk_54 : decode M_Mod_clerk.2.1 54 = .ok (.iconst 0, 1) := by decide +kernel
theorem dc_Mod_clerk_55 : decode M_Mod_clerk.2.1 55 = .ok (.invokevirtual 164, 3) := by decide +kernel
theorem dc_Mod_clerk_58 : decode M_Mod_clerk.2.1 58 = .ok (.ifCond .eq 4, 3) := by decide +kernel
theorem dc_Mod_clerk_61 : decode M_Mod_clerk.2.1 61 = .ok (.return_, 1) := by decide +kernel
theorem dc_Mod_clerk_62 : decode M_Mod_clerk.2.1 62 = .ok (.aload_n 0, 1) := by decide +kernel
theorem dc_Mod_clerk_63 : decode M_Mod_clerk.2.1 63 = .ok (.getfield 79, 3) := by decide +kernel
theorem dc_Mod_clerk_66 : decode M_Mod_clerk.2.1 66 = .ok (.bipush 64, 2) := by decide +kernel
theorem dc_Mod_clerk_68 : decode M_Mod_clerk.2.1 68 = .ok (.iload_n 1, 1) := by decide +kernel
theorem dc_Mod_clerk_69 : decode M_Mod_clerk.2.1 69 = .ok (.imul, 1) := by decide +kernel
theorem dc_Mod_clerk_70 : decode M_Mod_clerk.2.1 70 = .ok (.aload_n 0, 1) := by decide +kernel
theorem dc_Mod_clerk_71 : decode M_Mod_clerk.2.1 71 = .ok (.getfield 76, 3) := by decide +kernel
theorem dc_Mod_clerk_74 : decode M_Mod_clerk.2.1 74 = .ok (.iload_n 1, 1) := by decide +kernel
theorem dc_Mod_clerk_75 : decode M_Mod_clerk.2.1 75 = .ok (.iaload, 1) := by decide +kernel
theorem dc_Mod_clerk_76 : decode M_Mod_clerk.2.1 76 = .ok (.iadd, 1) := by decide +kernel
theorem dc_Mod_clerk_77 : decode M_Mod_clerk.2.1 77 = .ok (.iload_n 2, 1) := by decide +kernel
theorem dc_Mod_clerk_78 : decode M_Mod_clerk.2.1 78 = .ok (.castore, 1) := by decide +kernel
theorem dc_Mod_clerk_79 : decode M_Mod_clerk.2.1 79 = .ok (.aload_n 0, 1) := by decide +kernel
theorem dc_Mod_clerk_80 : decode M_Mod_clerk.2.1 80 = .ok (.getfield 76, 3) := by decide +kernel
theorem dc_Mod_clerk_83 : decode M_Mod_clerk.2.1 83 = .ok (.iload_n 1, 1) := by decide +kernel
theorem dc_Mod_clerk_84 : decode M_Mod_clerk.2.1 84 = .ok (.dup2, 1) := by decide +kernel
theorem dc_Mod_clerk_85 : decode M_Mod_clerk.2.1 85 = .ok (.iaload, 1) := by decide +kernel
theorem dc_Mod_clerk_86 : decode M_Mod_clerk.2.1 86 = .ok (.iconst 1, 1) := by decide +kernel
theorem dc_Mod_clerk_87 : decode M_Mod_clerk.2.1 87 = .ok (.iadd, 1) := by decide +kernel
theorem dc_Mod_clerk_88 : decode M_Mod_clerk.2.1 88 = .ok (.iastore, 1) := by decide +kernel
theorem dc_Mod_clerk_89 : decode M_Mod_clerk.2.1 89 = .ok (.return_, 1) := by decide +kernel
set_option maxRecDepth 20000 in
theorem e_Mod_clerk_0 {d : Nat} {σ : PH} {K : PO → PH → Prop} (x0 : Nat) (x1 : Int32) (x2 : Int32) (h : sh σ x0 = (1, 11) ∧ PW d M_Mod_isCase 0 [.ref x0, .int x1] [] σ (kI (fun r1 σ1 => (if r1 = 0 then PW (d + 1) M_Mod_clerk 19 [.ref x0, .int x1, .int x2, uu] [] σ1 K else PW d M_Mod_isCharacter 0 [.int x2] [] σ1 (kI (fun r2 σ2 => (if r2 = 0 then PW (d + 1) M_Mod_clerk 19 [.ref x0, .int x1, .int x2, uu] [] σ2 K else PW (d + 1) M_Mod_clerk 20 [.ref x0, .int x1, .int x2, uu] [.int 1] σ2 K)) K))) K)) : PW (d + 1) M_Mod_clerk 0 [.ref x0, .int x1, .int x2, uu] [] σ K := by
  refine pw_aload_n dc_Mod_clerk_0 rfl rfl ?_
  refine pw_iload_n dc_Mod_clerk_1 rfl ?_
  obtain ⟨hs1, h⟩ := h
  refine pw_callV (vs := [.int x1]) (st := []) (b := x0) (cn := 11) dc_Mod_clerk_2 cq_Mod_isCase (List.mem_of_getElem? (i := 1327) (by decide +kernel)) (List.mem_of_getElem? (i := 59) (by decide +kernel)) (List.mem_of_getElem? (i := 1325) (by decide +kernel)) rfl hs1 rfl rfl (by decide) (cat_cons rfl (cat_nil)) (Nat.le_of_ble_eq_true rfl) (PW.mono (kI_kN (fun r1 σ1 h => ?_)) h)
  refine pw_if_eq (tgt := 19) dc_Mod_clerk_5 (by decide) (fun hc => ?_) (fun hc => ?_)
  · have h := ite_t h hc
    exact h
  · have h := ite_f h hc
    refine pw_iload_n dc_Mod_clerk_8 rfl ?_
    refine pw_callS (vs := [.int x2]) (st := []) dc_Mod_clerk_9 cq_Mod_isCharacter (List.mem_of_getElem? (i := 1334) (by decide +kernel)) (List.mem_of_getElem? (i := 1333) (by decide +kernel)) rfl rfl (cat_cons rfl (cat_nil)) (Nat.le_of_ble_eq_true rfl) (PW.mono (kI_kN (fun r2 σ2 h => ?_)) h)
    refine pw_if_eq (tgt := 19) dc_Mod_clerk_12 (by decide) (fun hc => ?_) (fun hc => ?_)
    · have h := ite_t h hc
      exact h
    · have h := ite_f h hc
      refine pw_iconst (v := 1) dc_Mod_clerk_15 (by decide) ?_
      refine pw_goto (tgt := 20) dc_Mod_clerk_16 (by decide) ?_
      exact h
set_option maxRecDepth 20000 in
theorem e_Mod_clerk_19 {d : Nat} {σ : PH} {K : PO → PH → Prop} (x0 : Nat) (x1 : Int32) (x2 : Int32) (h : PW (d + 1) M_Mod_clerk 20 [.ref x0, .int x1, .int x2, uu] [.int 0] σ K) : PW (d + 1) M_Mod_clerk 19 [.ref x0, .int x1, .int x2, uu] [] σ K := by
  refine pw_iconst (v := 0) dc_Mod_clerk_19 (by decide) ?_
  exact h
set_option maxRecDepth 20000 in
theorem e_Mod_clerk_20 {d : Nat} {σ : PH} {K : PO → PH → Prop} (x0 : Nat) (x1 : Int32) (x2 : Int32) (y0 : Int32) (h : (if y0 = 0 then PW (d + 1) M_Mod_clerk 55 [.ref x0, .int x1, .int x2, uu] [.int 1, .ref x0] σ K else sh σ x0 = (1, 11) ∧ (∃ b1 : Nat, gR σ 728 x0 = some b1 ∧ (∃ n1 : Nat, sh σ b1 = (2, n1) ∧ vp_in x1 n1 ∧ (if (eI σ b1 (ix x1)) = 0 then PW (d + 1) M_Mod_clerk 50 [.ref x0, .int x1, .int x2, uu] [.ref x0] σ K else (∃ b2 : Nat, gR σ 729 x0 = some b2 ∧ (∃ n2 : Nat, sh σ b2 = (2, n2) ∧ vp_in x1 n2 ∧ (if (eI σ b2 (ix x1)) = 60 then PW (d + 1) M_Mod_clerk 50 [.ref x0, .int x1, .int x2, uu] [.ref x0] σ K else PW (d + 1) M_Mod_clerk 55 [.ref x0, .int x1, .int x2, uu] [.int 0, .ref x0] σ K)))))))) : PW (d + 1) M_Mod_clerk 20 [.ref x0, .int x1, .int x2, uu] [.int y0] σ K := by
  refine pw_istore_n dc_Mod_clerk_20 (by decide) ?_
  refine pw_aload_n dc_Mod_clerk_21 rfl rfl ?_
  refine pw_iload_n dc_Mod_clerk_22 rfl ?_
  refine pw_if_ne (tgt := 30) dc_Mod_clerk_23 (by decide) (fun hc => ?_) (fun hc => ?_)
  · have h := ite_f h hc
    refine pw_aload_n dc_Mod_clerk_30 rfl rfl ?_
    obtain ⟨hs1, h⟩ := h
    refine pw_getR (c := 11) (k := 24) (f := 728) dc_Mod_clerk_31 fl_Mod_73 rfl rfl hs1 ?_
    obtain ⟨b1, hb1, h⟩ := h
    refine PW.top (v' := .ref b1) (congrArg va_rf hb1) ?_
    refine pw_iload_n dc_Mod_clerk_34 rfl ?_
    obtain ⟨n1, hs2, h⟩ := h
    obtain ⟨hi1, h⟩ := h
    refine pw_iald dc_Mod_clerk_35 hs2 hi1 ?_
    refine pw_if_eq (tgt := 50) dc_Mod_clerk_36 (by decide) (fun hc => ?_) (fun hc => ?_)
    · have h := ite_t h hc
      refine PW.drop (ls' := [.ref x0, .int x1, .int x2, uu]) ⟨Or.inl rfl, Or.inl rfl, Or.inl rfl, Or.inr rfl, trivial⟩ ?_
      exact h
    · have h := ite_f h hc
      refine pw_aload_n dc_Mod_clerk_39 rfl rfl ?_
      refine pw_getR (c := 11) (k := 25) (f := 729) dc_Mod_clerk_40 fl_Mod_76 rfl rfl hs1 ?_
      obtain ⟨b2, hb2, h⟩ := h
      refine PW.top (v' := .ref b2) (congrArg va_rf hb2) ?_
      refine pw_iload_n dc_Mod_clerk_43 rfl ?_
      obtain ⟨n2, hs3, h⟩ := h
      obtain ⟨hi2, h⟩ := h
      refine pw_iald dc_Mod_clerk_44 hs3 hi2 ?_
      refine pw_bipush (v := 60) dc_Mod_clerk_45 (by decide) ?_
      refine pw_icmp_ne (tgt := 54) dc_Mod_clerk_47 (by decide) (fun hc => ?_) (fun hc => ?_)
      · have h := ite_f h hc
        refine pw_iconst (v := 0) dc_Mod_clerk_54 (by decide) ?_
        refine PW.drop (ls' := [.ref x0, .int x1, .int x2, uu]) ⟨Or.inl rfl, Or.inl rfl, Or.inl rfl, Or.inr rfl, trivial⟩ ?_
        exact h
      · have h := ite_t h hc
        refine PW.drop (ls' := [.ref x0, .int x1, .int x2, uu]) ⟨Or.inl rfl, Or.inl rfl, Or.inl rfl, Or.inr rfl, trivial⟩ ?_
        exact h
  · have h := ite_t h hc
    refine pw_iconst (v := 1) dc_Mod_clerk_26 (by decide) ?_
    refine pw_goto (tgt := 55) dc_Mod_clerk_27 (by decide) ?_
    refine PW.drop (ls' := [.ref x0, .int x1, .int x2, uu]) ⟨Or.inl rfl, Or.inl rfl, Or.inl rfl, Or.inr rfl, trivial⟩ ?_
    exact h
set_option maxRecDepth 20000 in
theorem e_Mod_clerk_50 {d : Nat} {σ : PH} {K : PO → PH → Prop} (x0 : Nat) (x1 : Int32) (x2 : Int32) (y0 : Nat) (h : PW (d + 1) M_Mod_clerk 55 [.ref x0, .int x1, .int x2, uu] [.int 2, .ref y0] σ K) : PW (d + 1) M_Mod_clerk 50 [.ref x0, .int x1, .int x2, uu] [.ref y0] σ K := by
  refine pw_iconst (v := 2) dc_Mod_clerk_50 (by decide) ?_
  refine pw_goto (tgt := 55) dc_Mod_clerk_51 (by decide) ?_
  exact h
set_option maxRecDepth 20000 in
theorem e_Mod_clerk_55 {d : Nat} {σ : PH} {K : PO → PH → Prop} (x0 : Nat) (x1 : Int32) (x2 : Int32) (y0 : Int32) (y1 : Nat) (h : sh σ y1 = (1, 11) ∧ PW d M_Mod_refused 0 [.ref y1, .int y0] [] σ (kI (fun r1 σ1 => (if r1 = 0 then sh σ1 x0 = (1, 11) ∧ (∃ b1 : Nat, gR σ1 730 x0 = some b1 ∧ (∃ b2 : Nat, gR σ1 729 x0 = some b2 ∧ (∃ n1 : Nat, sh σ1 b2 = (2, n1) ∧ vp_in x1 n1 ∧ (∃ n2 : Nat, sh σ1 b1 = (3, n2) ∧ vp_in ((64 * x1) + (eI σ1 b2 (ix x1))) n2 ∧ ch x2 ∧ (∀ σ2 : PH, σ2 = uI σ1 b1 (ix ((64 * x1) + (eI σ1 b2 (ix x1)))) x2 → sh σ2 x0 = (1, 11) ∧ (∃ b3 : Nat, gR σ2 729 x0 = some b3 ∧ (∃ n3 : Nat, sh σ2 b3 = (2, n3) ∧ vp_in x1 n3 ∧ vp_in x1 n3 ∧ (∀ σ3 : PH, σ3 = uI σ2 b3 (ix x1) ((eI σ2 b3 (ix x1)) + 1) → K (.inl none) σ3)))))))) else K (.inl none) σ1)) K)) : PW (d + 1) M_Mod_clerk 55 [.ref x0, .int x1, .int x2, uu] [.int y0, .ref y1] σ K := by
  obtain ⟨hs1, h⟩ := h
  refine pw_callV (vs := [.int y0]) (st := []) (b := y1) (cn := 11) dc_Mod_clerk_55 cq_Mod_refused (List.mem_of_getElem? (i := 1136) (by decide +kernel)) (List.mem_of_getElem? (i := 26) (by decide +kernel)) (List.mem_of_getElem? (i := 1134) (by decide +kernel)) rfl hs1 rfl rfl (by decide) (cat_cons rfl (cat_nil)) (Nat.le_of_ble_eq_true rfl) (PW.mono (kI_kN (fun r1 σ1 h => ?_)) h)
  refine pw_if_eq (tgt := 62) dc_Mod_clerk_58 (by decide) (fun hc => ?_) (fun hc => ?_)
  · have h := ite_t h hc
    refine pw_aload_n dc_Mod_clerk_62 rfl rfl ?_
    obtain ⟨hs2, h⟩ := h
    refine pw_getR (c := 11) (k := 26) (f := 730) dc_Mod_clerk_63 fl_Mod_79 rfl rfl hs2 ?_
    obtain ⟨b1, hb1, h⟩ := h
    refine PW.top (v' := .ref b1) (congrArg va_rf hb1) ?_
    refine pw_bipush (v := 64) dc_Mod_clerk_66 (by decide) ?_
    refine pw_iload_n dc_Mod_clerk_68 rfl ?_
    refine pw_imul dc_Mod_clerk_69 ?_
    refine pw_aload_n dc_Mod_clerk_70 rfl rfl ?_
    refine pw_getR (c := 11) (k := 25) (f := 729) dc_Mod_clerk_71 fl_Mod_76 rfl rfl hs2 ?_
    obtain ⟨b2, hb2, h⟩ := h
    refine PW.top (v' := .ref b2) (congrArg va_rf hb2) ?_
    refine pw_iload_n dc_Mod_clerk_74 rfl ?_
    obtain ⟨n1, hs3, h⟩ := h
    obtain ⟨hi1, h⟩ := h
    refine pw_iald dc_Mod_clerk_75 hs3 hi1 ?_
    refine pw_iadd dc_Mod_clerk_76 ?_
    refine pw_iload_n dc_Mod_clerk_77 rfl ?_
    obtain ⟨n2, hs4, h⟩ := h
    obtain ⟨hi2, h⟩ := h
    obtain ⟨hc1, h⟩ := h
    have h := h _ rfl
    refine pw_cast dc_Mod_clerk_78 hs4 hi2 hc1 ?_
    refine pw_aload_n dc_Mod_clerk_79 rfl rfl ?_
    obtain ⟨hs5, h⟩ := h
    refine pw_getR (c := 11) (k := 25) (f := 729) dc_Mod_clerk_80 fl_Mod_76 rfl rfl hs5 ?_
    obtain ⟨b3, hb3, h⟩ := h
    refine PW.top (v' := .ref b3) (congrArg va_rf hb3) ?_
    refine pw_iload_n dc_Mod_clerk_83 rfl ?_
    refine pw_dup2 dc_Mod_clerk_84 rfl rfl ?_
    obtain ⟨n3, hs6, h⟩ := h
    obtain ⟨hi3, h⟩ := h
    refine pw_iald dc_Mod_clerk_85 hs6 hi3 ?_
    refine pw_iconst (v := 1) dc_Mod_clerk_86 (by decide) ?_
    refine pw_iadd dc_Mod_clerk_87 ?_
    obtain ⟨hi4, h⟩ := h
    have h := h _ rfl
    refine pw_iast dc_Mod_clerk_88 hs6 hi4 ?_
    exact pw_vret dc_Mod_clerk_89 rfl h
  · have h := ite_f h hc
    exact pw_vret dc_Mod_clerk_61 rfl h
theorem dc_Mod_resubmit_0 : decode M_Mod_resubmit.2.1 0 = .ok (.aload_n 0, 1) := by decide +kernel
theorem dc_Mod_resubmit_1 : decode M_Mod_resubmit.2.1 1 = .ok (.aload_n 0, 1) := by decide +kernel
theorem dc_Mod_resubmit_2 : decode M_Mod_resubmit.2.1 2 = .ok (.iload_n 1, 1) := by decide +kernel
theorem dc_Mod_resubmit_3 : decode M_Mod_resubmit.2.1 3 = .ok (.invokevirtual 319, 3) := by decide +kernel
theorem dc_Mod_resubmit_6 : decode M_Mod_resubmit.2.1 6 = .ok (.ifCond .ne 7, 3) := by decide +kernel
theorem dc_Mod_resubmit_9 : decode M_Mod_resubmit.2.1 9 = .ok (.iconst 1, 1) := by decide +kernel
theorem dc_Mod_resubmit_10 : decode M_Mod_resubmit.2.1 10 = .ok (.goto 26, 3) := by decide +kernel
theorem dc_Mod_resubmit_13 : decode M_Mod_resubmit.2.1 13 = .ok (.aload_n 0, 1) := by decide +kernel
theorem dc_Mod_resubmit_14 : decode M_Mod_resubmit.2.1 14 = .ok (.getfield 73, 3) := by decide +kernel
theorem dc_Mod_resubmit_17 : decode M_Mod_resubmit.2.1 17 = .ok (.iload_n 1, 1) := by decide +kernel
theorem dc_Mod_resubmit_18 : decode M_Mod_resubmit.2.1 18 = .ok (.iaload, 1) := by decide +kernel
theorem dc_Mod_resubmit_19 : decode M_Mod_resubmit.2.1 19 = .ok (.ifCond .eq 12, 3) := by decide +kernel
theorem dc_Mod_resubmit_22 : decode M_Mod_resubmit.2.1 22 = .ok (.aload_n 0, 1) := by decide +kernel
theorem dc_Mod_resubmit_23 : decode M_Mod_resubmit.2.1 23 = .ok (.getfield 247, 3) := by decide +kernel
theorem dc_Mod_resubmit_26 : decode M_Mod_resubmit.2.1 26 = .ok (.bipush 10, 2) := by decide +kernel
theorem dc_Mod_resubmit_28 : decode M_Mod_resubmit.2.1 28 = .ok (.if_icmp .ne 7, 3) := by decide +kernel
theorem dc_Mod_resubmit_31 : decode M_Mod_resubmit.2.1 31 = .ok (.iconst 2, 1) := by decide +kernel
theorem dc_Mod_resubmit_32 : decode M_Mod_resubmit.2.1 32 = .ok (.goto 4, 3) := by decide +kernel
theorem dc_Mod_resubmit_35 : decode M_Mod_resubmit.2.1 35 = .ok (.iconst 0, 1) := by decide +kernel
theorem dc_Mod_resubmit_36 : decode M_Mod_resubmit.2.1 36 = .ok (.invokevirtual 164, 3) := by decide +kernel
theorem dc_Mod_resubmit_39 : decode M_Mod_resubmit.2.1 39 = .ok (.ifCond .eq 5, 3) := by decide +kernel
theorem dc_Mod_resubmit_42 : decode M_Mod_resubmit.2.1 42 = .ok (.iconst 0, 1) := by decide +kernel
theorem dc_Mod_resubmit_43 : decode M_Mod_resubmit.2.1 43 = .ok (.ireturn, 1) := by decide +kernel
theorem dc_Mod_resubmit_44 : decode M_Mod_resubmit.2.1 44 = .ok (.aload_n 0, 1) := by decide +kernel
theorem dc_Mod_resubmit_45 : decode M_Mod_resubmit.2.1 45 = .ok (.aload_n 0, 1) := by decide +kernel
theorem dc_Mod_resubmit_46 : decode M_Mod_resubmit.2.1 46 = .ok (.getfield 76, 3) := by decide +kernel
theorem dc_Mod_resubmit_49 : decode M_Mod_resubmit.2.1 49 = .ok (.iload_n 1, 1) := by decide +kernel
theorem dc_Mod_resubmit_50 : decode M_Mod_resubmit.2.1 50 = .ok (.iaload, 1) := by decide +kernel
theorem dc_Mod_resubmit_51 : decode M_Mod_resubmit.2.1 51 = .ok (.putfield 178, 3) := by decide +kernel
theorem dc_Mod_resubmit_54 : decode M_Mod_resubmit.2.1 54 = .ok (.iconst 0, 1) := by decide +kernel
theorem dc_Mod_resubmit_55 : decode M_Mod_resubmit.2.1 55 = .ok (.istore_n 2, 1) := by decide +kernel
theorem dc_Mod_resubmit_56 : decode M_Mod_resubmit.2.1 56 = .ok (.iload_n 2, 1) := by decide +kernel
theorem dc_Mod_resubmit_57 : decode M_Mod_resubmit.2.1 57 = .ok (.aload_n 0, 1) := by decide +kernel
theorem dc_Mod_resubmit_58 : decode M_Mod_resubmit.2.1 58 = .ok (.getfield 178, 3) := by decide +kernel
theorem dc_Mod_resubmit_61 : decode M_Mod_resubmit.2.1 61 = .ok (.if_icmp .ge 26, 3) := by decide +kernel
theorem dc_Mod_resubmit_64 : decode M_Mod_resubmit.2.1 64 = .ok (.aload_n 0, 1) := by decide +kernel
theorem dc_Mod_resubmit_65 : decode M_Mod_resubmit.2.1 65 = .ok (.getfield 115, 3) := by decide +kernel
theorem dc_Mod_resubmit_68 : decode M_Mod_resubmit.2.1 68 = .ok (.iload_n 2, 1) := by decide +kernel
theorem dc_Mod_resubmit_69 : decode M_Mod_resubmit.2.1 69 = .ok (.aload_n 0, 1) := by decide +kernel
theorem dc_Mod_resubmit_70 : decode M_Mod_resubmit.2.1 70 = .ok (.getfield 79, 3) := by decide +kernel
theorem dc_Mod_resubmit_73 : decode M_Mod_resubmit.2.1 73 = .ok (.bipush 64, 2) := by decide +kernel
theorem dc_Mod_resubmit_75 : decode M_Mod_resubmit.2.1 75 = .ok (.iload_n 1, 1) := by decide +kernel
theorem dc_Mod_resubmit_76 : decode M_Mod_resubmit.2.1 76 = .ok (.imul, 1) := by decide +kernel
theorem dc_Mod_resubmit_77 : decode M_Mod_resubmit.2.1 77 = .ok (.iload_n 2, 1) := by decide +kernel
theorem dc_Mod_resubmit_78 : decode M_Mod_resubmit.2.1 78 = .ok (.iadd, 1) := by decide +kernel
theorem dc_Mod_resubmit_79 : decode M_Mod_resubmit.2.1 79 = .ok (.caload, 1) := by decide +kernel
theorem dc_Mod_resubmit_80 : decode M_Mod_resubmit.2.1 80 = .ok (.castore, 1) := by decide +kernel
theorem dc_Mod_resubmit_81 : decode M_Mod_resubmit.2.1 81 = .ok (.iinc 2 1, 3) := by decide +kernel
theorem dc_Mod_resubmit_84 : decode M_Mod_resubmit.2.1 84 = .ok (.goto (-28), 3) := by decide +kernel
theorem dc_Mod_resubmit_87 : decode M_Mod_resubmit.2.1 87 = .ok (.aload_n 0, 1) := by decide +kernel
theorem dc_Mod_resubmit_88 : decode M_Mod_resubmit.2.1 88 = .ok (.iconst 0, 1) := by decide +kernel
theorem dc_Mod_resubmit_89 : decode M_Mod_resubmit.2.1 89 = .ok (.putfield 174, 3) := by decide +kernel
theorem dc_Mod_resubmit_92 : decode M_Mod_resubmit.2.1 92 = .ok (.aload_n 0, 1) := by decide +kernel
theorem dc_Mod_resubmit_93 : decode M_Mod_resubmit.2.1 93 = .ok (.getfield 76, 3) := by decide +kernel
theorem dc_Mod_resubmit_96 : decode M_Mod_resubmit.2.1 96 = .ok (.iload_n 1, 1) := by decide +kernel
theorem dc_Mod_resubmit_97 : decode M_Mod_resubmit.2.1 97 = .ok (.iconst 0, 1) := by decide +kernel
theorem dc_Mod_resubmit_98 : decode M_Mod_resubmit.2.1 98 = .ok (.iastore, 1) := by decide +kernel
theorem dc_Mod_resubmit_99 : decode M_Mod_resubmit.2.1 99 = .ok (.aload_n 0, 1) := by decide +kernel
theorem dc_Mod_resubmit_100 : decode M_Mod_resubmit.2.1 100 = .ok (.invokevirtual 238, 3) := by decide +kernel
theorem dc_Mod_resubmit_103 : decode M_Mod_resubmit.2.1 103 = .ok (.istore_n 2, 1) := by decide +kernel
theorem dc_Mod_resubmit_104 : decode M_Mod_resubmit.2.1 104 = .ok (.iload_n 2, 1) := by decide +kernel
theorem dc_Mod_resubmit_105 : decode M_Mod_resubmit.2.1 105 = .ok (.ifCond .ne 20, 3) := by decide +kernel
theorem dc_Mod_resubmit_108 : decode M_Mod_resubmit.2.1 108 = .ok (.aload_n 0, 1) := by decide +kernel
theorem dc_Mod_resubmit_109 : decode M_Mod_resubmit.2.1 109 = .ok (.invokevirtual 254, 3) := by decide +kernel
theorem dc_Mod_resubmit_112 : decode M_Mod_resubmit.2.1 112 = .ok (.aload_n 0, 1) := by decide +kernel
theorem dc_Mod_resubmit_113 : decode M_Mod_resubmit.2.1 113 = .ok (.getfield 260, 3) := by decide +kernel
theorem dc_Mod_resubmit_116 : decode M_Mod_resubmit.2.1 116 = .ok (.ifCond .eq 7, 3) := by decide +kernel
theorem dc_Mod_resubmit_119 : decode M_Mod_resubmit.2.1 119 = .ok (.iconst 5, 1) := by decide +kernel
theorem dc_Mod_resubmit_120 : decode M_Mod_resubmit.2.1 120 = .ok (.goto 4, 3) := by decide +kernel
theorem dc_Mod_resubmit_123 : decode M_Mod_resubmit.2.1 123 = .ok (.iconst 0, 1) := by decide +kernel
theorem dc_Mod_resubmit_124 : decode M_Mod_resubmit.2.1 124 = .ok (.istore_n 2, 1) := by decide +kernel
theorem dc_Mod_resubmit_125 : decode M_Mod_resubmit.2.1 125 = .ok (.aload_n 0, 1) := by decide +kernel
theorem dc_Mod_resubmit_126 : decode M_Mod_resubmit.2.1 126 = .ok (.getfield 73, 3) := by decide +kernel
theorem dc_Mod_resubmit_129 : decode M_Mod_resubmit.2.1 129 = .ok (.iload_n 1, 1) := by decide +kernel
theorem dc_Mod_resubmit_130 : decode M_Mod_resubmit.2.1 130 = .ok (.iload_n 2, 1) := by decide +kernel
theorem dc_Mod_resubmit_131 : decode M_Mod_resubmit.2.1 131 = .ok (.iastore, 1) := by decide +kernel
theorem dc_Mod_resubmit_132 : decode M_Mod_resubmit.2.1 132 = .ok (.iload_n 2, 1) := by decide +kernel
theorem dc_Mod_resubmit_133 : decode M_Mod_resubmit.2.1 133 = .ok (.ifCond .ne 7, 3) := by decide +kernel
theorem dc_Mod_resubmit_136 : decode M_Mod_resubmit.2.1 136 = .ok (.aload_n 0, 1) := by decide +kernel
theorem dc_Mod_resubmit_137 : decode M_Mod_resubmit.2.1 137 = .ok (.invokevirtual 257, 3) := by decide +kernel
theorem dc_Mod_resubmit_140 : decode M_Mod_resubmit.2.1 140 = .ok (.iload_n 2, 1) := by decide +kernel
theorem dc_Mod_resubmit_141 : decode M_Mod_resubmit.2.1 141 = .ok (.ireturn, 1) := by decide +kernel
set_option maxRecDepth 20000 in
theorem e_Mod_resubmit_0 {d : Nat} {σ : PH} {K : PO → PH → Prop} (x0 : Nat) (x1 : Int32) (h : sh σ x0 = (1, 11) ∧ PW d M_Mod_isCase 0 [.ref x0, .int x1] [] σ (kI (fun r1 σ1 => (if r1 = 0 then PW (d + 1) M_Mod_resubmit 36 [.ref x0, .int x1, uu] [.int 1, .ref x0] σ1 K else sh σ1 x0 = (1, 11) ∧ (∃ b1 : Nat, gR σ1 728 x0 = some b1 ∧ (∃ n1 : Nat, sh σ1 b1 = (2, n1) ∧ vp_in x1 n1 ∧ (if (eI σ1 b1 (ix x1)) = 0 then PW (d + 1) M_Mod_resubmit 31 [.ref x0, .int x1, uu] [.ref x0] σ1 K else (if (gI σ1 719 x0) = 10 then PW (d + 1) M_Mod_resubmit 31 [.ref x0, .int x1, uu] [.ref x0] σ1 K else PW (d + 1) M_Mod_resubmit 36 [.ref x0, .int x1, uu] [.int 0, .ref x0] σ1 K)))))) K)) : PW (d + 1) M_Mod_resubmit 0 [.ref x0, .int x1, uu] [] σ K := by
  refine pw_aload_n dc_Mod_resubmit_0 rfl rfl ?_
  refine pw_aload_n dc_Mod_resubmit_1 rfl rfl ?_
  refine pw_iload_n dc_Mod_resubmit_2 rfl ?_
  obtain ⟨hs1, h⟩ := h
  refine pw_callV (vs := [.int x1]) (st := [.ref x0]) (b := x0) (cn := 11) dc_Mod_resubmit_3 cq_Mod_isCase (List.mem_of_getElem? (i := 1327) (by decide +kernel)) (List.mem_of_getElem? (i := 59) (by decide +kernel)) (List.mem_of_getElem? (i := 1325) (by decide +kernel)) rfl hs1 rfl rfl (by decide) (cat_cons rfl (cat_nil)) (Nat.le_of_ble_eq_true rfl) (PW.mono (kI_kN (fun r1 σ1 h => ?_)) h)
  refine pw_if_ne (tgt := 13) dc_Mod_resubmit_6 (by decide) (fun hc => ?_) (fun hc => ?_)
  · have h := ite_f h hc
    refine pw_aload_n dc_Mod_resubmit_13 rfl rfl ?_
    obtain ⟨hs2, h⟩ := h
    refine pw_getR (c := 11) (k := 24) (f := 728) dc_Mod_resubmit_14 fl_Mod_73 rfl rfl hs2 ?_
    obtain ⟨b1, hb1, h⟩ := h
    refine PW.top (v' := .ref b1) (congrArg va_rf hb1) ?_
    refine pw_iload_n dc_Mod_resubmit_17 rfl ?_
    obtain ⟨n1, hs3, h⟩ := h
    obtain ⟨hi1, h⟩ := h
    refine pw_iald dc_Mod_resubmit_18 hs3 hi1 ?_
    refine pw_if_eq (tgt := 31) dc_Mod_resubmit_19 (by decide) (fun hc => ?_) (fun hc => ?_)
    · have h := ite_t h hc
      exact h
    · have h := ite_f h hc
      refine pw_aload_n dc_Mod_resubmit_22 rfl rfl ?_
      refine pw_getI (c := 11) (k := 15) (f := 719) dc_Mod_resubmit_23 fl_Mod_247 rfl rfl hs2 ?_
      refine pw_bipush (v := 10) dc_Mod_resubmit_26 (by decide) ?_
      refine pw_icmp_ne (tgt := 35) dc_Mod_resubmit_28 (by decide) (fun hc => ?_) (fun hc => ?_)
      · have h := ite_f h hc
        refine pw_iconst (v := 0) dc_Mod_resubmit_35 (by decide) ?_
        exact h
      · have h := ite_t h hc
        exact h
  · have h := ite_t h hc
    refine pw_iconst (v := 1) dc_Mod_resubmit_9 (by decide) ?_
    refine pw_goto (tgt := 36) dc_Mod_resubmit_10 (by decide) ?_
    exact h
set_option maxRecDepth 20000 in
theorem e_Mod_resubmit_31 {d : Nat} {σ : PH} {K : PO → PH → Prop} (x0 : Nat) (x1 : Int32) (y0 : Nat) (h : PW (d + 1) M_Mod_resubmit 36 [.ref x0, .int x1, uu] [.int 2, .ref y0] σ K) : PW (d + 1) M_Mod_resubmit 31 [.ref x0, .int x1, uu] [.ref y0] σ K := by
  refine pw_iconst (v := 2) dc_Mod_resubmit_31 (by decide) ?_
  refine pw_goto (tgt := 36) dc_Mod_resubmit_32 (by decide) ?_
  exact h
set_option maxRecDepth 20000 in
theorem e_Mod_resubmit_36 {d : Nat} {σ : PH} {K : PO → PH → Prop} (x0 : Nat) (x1 : Int32) (y0 : Int32) (y1 : Nat) (h : sh σ y1 = (1, 11) ∧ PW d M_Mod_refused 0 [.ref y1, .int y0] [] σ (kI (fun r1 σ1 => (if r1 = 0 then sh σ1 x0 = (1, 11) ∧ (∃ b1 : Nat, gR σ1 729 x0 = some b1 ∧ (∃ n1 : Nat, sh σ1 b1 = (2, n1) ∧ vp_in x1 n1 ∧ (∀ σ2 : PH, σ2 = pI σ1 742 x0 (eI σ1 b1 (ix x1)) → PW (d + 1) M_Mod_resubmit 56 [.ref x0, .int x1, .int 0] [] σ2 K))) else K (.inl (some (.int 0))) σ1)) K)) : PW (d + 1) M_Mod_resubmit 36 [.ref x0, .int x1, uu] [.int y0, .ref y1] σ K := by
  obtain ⟨hs1, h⟩ := h
  refine pw_callV (vs := [.int y0]) (st := []) (b := y1) (cn := 11) dc_Mod_resubmit_36 cq_Mod_refused (List.mem_of_getElem? (i := 1136) (by decide +kernel)) (List.mem_of_getElem? (i := 26) (by decide +kernel)) (List.mem_of_getElem? (i := 1134) (by decide +kernel)) rfl hs1 rfl rfl (by decide) (cat_cons rfl (cat_nil)) (Nat.le_of_ble_eq_true rfl) (PW.mono (kI_kN (fun r1 σ1 h => ?_)) h)
  refine pw_if_eq (tgt := 44) dc_Mod_resubmit_39 (by decide) (fun hc => ?_) (fun hc => ?_)
  · have h := ite_t h hc
    refine pw_aload_n dc_Mod_resubmit_44 rfl rfl ?_
    refine pw_aload_n dc_Mod_resubmit_45 rfl rfl ?_
    obtain ⟨hs2, h⟩ := h
    refine pw_getR (c := 11) (k := 25) (f := 729) dc_Mod_resubmit_46 fl_Mod_76 rfl rfl hs2 ?_
    obtain ⟨b1, hb1, h⟩ := h
    refine PW.top (v' := .ref b1) (congrArg va_rf hb1) ?_
    refine pw_iload_n dc_Mod_resubmit_49 rfl ?_
    obtain ⟨n1, hs3, h⟩ := h
    obtain ⟨hi1, h⟩ := h
    refine pw_iald dc_Mod_resubmit_50 hs3 hi1 ?_
    have h := h _ rfl
    refine pw_putI (c := 11) (k := 38) (f := 742) dc_Mod_resubmit_51 fl_Mod_178 (Or.inl rfl) rfl rfl hs2 ?_
    refine pw_iconst (v := 0) dc_Mod_resubmit_54 (by decide) ?_
    refine pw_istore_n dc_Mod_resubmit_55 (by decide) ?_
    exact h
  · have h := ite_f h hc
    refine pw_iconst (v := 0) dc_Mod_resubmit_42 (by decide) ?_
    exact pw_iret dc_Mod_resubmit_43 rfl rfl h
set_option maxRecDepth 20000 in
theorem e_Mod_resubmit_56 {d : Nat} {σ : PH} {K : PO → PH → Prop} (x0 : Nat) (x1 : Int32) (x2 : Int32) (h : sh σ x0 = (1, 11) ∧ (if (gI σ 742 x0) ≤ x2 then (∀ σ1 : PH, σ1 = pI σ 744 x0 0 → sh σ1 x0 = (1, 11) ∧ (∃ b1 : Nat, gR σ1 729 x0 = some b1 ∧ (∃ n1 : Nat, sh σ1 b1 = (2, n1) ∧ vp_in x1 n1 ∧ (∀ σ2 : PH, σ2 = uI σ1 b1 (ix x1) 0 → sh σ2 x0 = (1, 11) ∧ PW d M_Mod_faultOfText 0 [.ref x0, uu, uu, uu, uu] [] σ2 (kI (fun r1 σ3 => (if r1 = 0 then sh σ3 x0 = (1, 11) ∧ PW d M_Mod_look 0 [.ref x0, uu] [] σ3 (kV (fun σ4 => sh σ4 x0 = (1, 11) ∧ (if (gI σ4 753 x0) = 0 then PW (d + 1) M_Mod_resubmit 124 [.ref x0, .int x1, uu] [.int 0] σ4 K else PW (d + 1) M_Mod_resubmit 124 [.ref x0, .int x1, uu] [.int 5] σ4 K)) K) else PW (d + 1) M_Mod_resubmit 125 [.ref x0, .int x1, .int r1] [] σ3 K)) K))))) else (∃ b2 : Nat, gR σ 743 x0 = some b2 ∧ (∃ b3 : Nat, gR σ 730 x0 = some b3 ∧ (∃ n2 : Nat, sh σ b3 = (3, n2) ∧ vp_in ((64 * x1) + x2) n2 ∧ (∃ n3 : Nat, sh σ b2 = (3, n3) ∧ vp_in x2 n3 ∧ ch (eI σ b3 (ix ((64 * x1) + x2))) ∧ (∀ σ5 : PH, σ5 = uI σ b2 (ix x2) (eI σ b3 (ix ((64 * x1) + x2))) → PW (d + 1) M_Mod_resubmit 56 [.ref x0, .int x1, .int (x2 + 1)] [] σ5 K))))))) : PW (d + 1) M_Mod_resubmit 56 [.ref x0, .int x1, .int x2] [] σ K := by
  refine pw_iload_n dc_Mod_resubmit_56 rfl ?_
  refine pw_aload_n dc_Mod_resubmit_57 rfl rfl ?_
  obtain ⟨hs1, h⟩ := h
  refine pw_getI (c := 11) (k := 38) (f := 742) dc_Mod_resubmit_58 fl_Mod_178 rfl rfl hs1 ?_
  refine pw_icmp_ge (tgt := 87) dc_Mod_resubmit_61 (by decide) (fun hc => ?_) (fun hc => ?_)
  · have h := ite_t h hc
    refine pw_aload_n dc_Mod_resubmit_87 rfl rfl ?_
    refine pw_iconst (v := 0) dc_Mod_resubmit_88 (by decide) ?_
    have h := h _ rfl
    refine pw_putZ (c := 11) (k := 40) (f := 744) dc_Mod_resubmit_89 fl_Mod_174 (Or.inl rfl) rfl rfl hs1 (Or.inl rfl) ?_
    refine pw_aload_n dc_Mod_resubmit_92 rfl rfl ?_
    obtain ⟨hs2, h⟩ := h
    refine pw_getR (c := 11) (k := 25) (f := 729) dc_Mod_resubmit_93 fl_Mod_76 rfl rfl hs2 ?_
    obtain ⟨b1, hb1, h⟩ := h
    refine PW.top (v' := .ref b1) (congrArg va_rf hb1) ?_
    refine pw_iload_n dc_Mod_resubmit_96 rfl ?_
    refine pw_iconst (v := 0) dc_Mod_resubmit_97 (by decide) ?_
    obtain ⟨n1, hs3, h⟩ := h
    obtain ⟨hi1, h⟩ := h
    have h := h _ rfl
    refine pw_iast dc_Mod_resubmit_98 hs3 hi1 ?_
    refine pw_aload_n dc_Mod_resubmit_99 rfl rfl ?_
    obtain ⟨hs4, h⟩ := h
    refine pw_callV (vs := []) (st := []) (b := x0) (cn := 11) dc_Mod_resubmit_100 cq_Mod_faultOfText (List.mem_of_getElem? (i := 1163) (by decide +kernel)) (List.mem_of_getElem? (i := 32) (by decide +kernel)) (List.mem_of_getElem? (i := 1161) (by decide +kernel)) rfl hs4 rfl rfl (by decide) (cat_nil) (Nat.le_of_ble_eq_true rfl) (PW.mono (kI_kN (fun r1 σ3 h => ?_)) h)
    refine pw_istore_n dc_Mod_resubmit_103 (by decide) ?_
    refine pw_iload_n dc_Mod_resubmit_104 rfl ?_
    refine pw_if_ne (tgt := 125) dc_Mod_resubmit_105 (by decide) (fun hc => ?_) (fun hc => ?_)
    · have h := ite_f h hc
      exact h
    · have h := ite_t h hc
      refine pw_aload_n dc_Mod_resubmit_108 rfl rfl ?_
      obtain ⟨hs5, h⟩ := h
      refine pw_callV (vs := []) (st := []) (b := x0) (cn := 11) dc_Mod_resubmit_109 cq_Mod_look (List.mem_of_getElem? (i := 1216) (by decide +kernel)) (List.mem_of_getElem? (i := 43) (by decide +kernel)) (List.mem_of_getElem? (i := 1214) (by decide +kernel)) rfl hs5 rfl rfl (by decide) (cat_nil) (Nat.le_of_ble_eq_true rfl) (PW.mono (kV_kN (fun σ4 h => ?_)) h)
      refine pw_aload_n dc_Mod_resubmit_112 rfl rfl ?_
      obtain ⟨hs6, h⟩ := h
      refine pw_getI (c := 11) (k := 49) (f := 753) dc_Mod_resubmit_113 fl_Mod_260 rfl rfl hs6 ?_
      refine pw_if_eq (tgt := 123) dc_Mod_resubmit_116 (by decide) (fun hc => ?_) (fun hc => ?_)
      · have h := ite_t h hc
        refine pw_iconst (v := 0) dc_Mod_resubmit_123 (by decide) ?_
        refine PW.drop (ls' := [.ref x0, .int x1, uu]) ⟨Or.inl rfl, Or.inl rfl, Or.inr rfl, trivial⟩ ?_
        exact h
      · have h := ite_f h hc
        refine pw_iconst (v := 5) dc_Mod_resubmit_119 (by decide) ?_
        refine pw_goto (tgt := 124) dc_Mod_resubmit_120 (by decide) ?_
        refine PW.drop (ls' := [.ref x0, .int x1, uu]) ⟨Or.inl rfl, Or.inl rfl, Or.inr rfl, trivial⟩ ?_
        exact h
  · have h := ite_f h hc
    refine pw_aload_n dc_Mod_resubmit_64 rfl rfl ?_
    refine pw_getR (c := 11) (k := 39) (f := 743) dc_Mod_resubmit_65 fl_Mod_115 rfl rfl hs1 ?_
    obtain ⟨b2, hb2, h⟩ := h
    refine PW.top (v' := .ref b2) (congrArg va_rf hb2) ?_
    refine pw_iload_n dc_Mod_resubmit_68 rfl ?_
    refine pw_aload_n dc_Mod_resubmit_69 rfl rfl ?_
    refine pw_getR (c := 11) (k := 26) (f := 730) dc_Mod_resubmit_70 fl_Mod_79 rfl rfl hs1 ?_
    obtain ⟨b3, hb3, h⟩ := h
    refine PW.top (v' := .ref b3) (congrArg va_rf hb3) ?_
    refine pw_bipush (v := 64) dc_Mod_resubmit_73 (by decide) ?_
    refine pw_iload_n dc_Mod_resubmit_75 rfl ?_
    refine pw_imul dc_Mod_resubmit_76 ?_
    refine pw_iload_n dc_Mod_resubmit_77 rfl ?_
    refine pw_iadd dc_Mod_resubmit_78 ?_
    obtain ⟨n2, hs7, h⟩ := h
    obtain ⟨hi2, h⟩ := h
    refine pw_cald dc_Mod_resubmit_79 hs7 hi2 ?_
    obtain ⟨n3, hs8, h⟩ := h
    obtain ⟨hi3, h⟩ := h
    obtain ⟨hc1, h⟩ := h
    have h := h _ rfl
    refine pw_cast dc_Mod_resubmit_80 hs8 hi3 hc1 ?_
    refine pw_iincv (v := 1) dc_Mod_resubmit_81 (by decide) rfl (by decide) ?_
    refine pw_goto (tgt := 56) dc_Mod_resubmit_84 (by decide) ?_
    exact h
set_option maxRecDepth 20000 in
theorem e_Mod_resubmit_124 {d : Nat} {σ : PH} {K : PO → PH → Prop} (x0 : Nat) (x1 : Int32) (y0 : Int32) (h : PW (d + 1) M_Mod_resubmit 125 [.ref x0, .int x1, .int y0] [] σ K) : PW (d + 1) M_Mod_resubmit 124 [.ref x0, .int x1, uu] [.int y0] σ K := by
  refine pw_istore_n dc_Mod_resubmit_124 (by decide) ?_
  exact h
set_option maxRecDepth 20000 in
theorem e_Mod_resubmit_125 {d : Nat} {σ : PH} {K : PO → PH → Prop} (x0 : Nat) (x1 : Int32) (x2 : Int32) (h : sh σ x0 = (1, 11) ∧ (∃ b1 : Nat, gR σ 728 x0 = some b1 ∧ (∃ n1 : Nat, sh σ b1 = (2, n1) ∧ vp_in x1 n1 ∧ (∀ σ1 : PH, σ1 = uI σ b1 (ix x1) x2 → (if x2 = 0 then sh σ1 x0 = (1, 11) ∧ PW d M_Mod_addMessage 0 [.ref x0, uu, uu] [] σ1 (kV (fun σ2 => K (.inl (some (.int x2))) σ2) K) else K (.inl (some (.int x2))) σ1))))) : PW (d + 1) M_Mod_resubmit 125 [.ref x0, .int x1, .int x2] [] σ K := by
  refine pw_aload_n dc_Mod_resubmit_125 rfl rfl ?_
  obtain ⟨hs1, h⟩ := h
  refine pw_getR (c := 11) (k := 24) (f := 728) dc_Mod_resubmit_126 fl_Mod_73 rfl rfl hs1 ?_
  obtain ⟨b1, hb1, h⟩ := h
  refine PW.top (v' := .ref b1) (congrArg va_rf hb1) ?_
  refine pw_iload_n dc_Mod_resubmit_129 rfl ?_
  refine pw_iload_n dc_Mod_resubmit_130 rfl ?_
  obtain ⟨n1, hs2, h⟩ := h
  obtain ⟨hi1, h⟩ := h
  have h := h _ rfl
  refine pw_iast dc_Mod_resubmit_131 hs2 hi1 ?_
  refine pw_iload_n dc_Mod_resubmit_132 rfl ?_
  refine pw_if_ne (tgt := 140) dc_Mod_resubmit_133 (by decide) (fun hc => ?_) (fun hc => ?_)
  · have h := ite_f h hc
    refine pw_iload_n dc_Mod_resubmit_140 rfl ?_
    exact pw_iret dc_Mod_resubmit_141 rfl rfl h
  · have h := ite_t h hc
    refine pw_aload_n dc_Mod_resubmit_136 rfl rfl ?_
    obtain ⟨hs3, h⟩ := h
    refine pw_callV (vs := []) (st := []) (b := x0) (cn := 11) dc_Mod_resubmit_137 cq_Mod_addMessage (List.mem_of_getElem? (i := 1236) (by decide +kernel)) (List.mem_of_getElem? (i := 48) (by decide +kernel)) (List.mem_of_getElem? (i := 1234) (by decide +kernel)) rfl hs3 rfl rfl (by decide) (cat_nil) (Nat.le_of_ble_eq_true rfl) (PW.mono (kV_kN (fun σ2 h => ?_)) h)
    refine pw_iload_n dc_Mod_resubmit_140 rfl ?_
    exact pw_iret dc_Mod_resubmit_141 rfl rfl h
theorem dc_Mod_cut_0 : decode M_Mod_cut.2.1 0 = .ok (.aload_n 0, 1) := by decide +kernel
theorem dc_Mod_cut_1 : decode M_Mod_cut.2.1 1 = .ok (.iconst 0, 1) := by decide +kernel
theorem dc_Mod_cut_2 : decode M_Mod_cut.2.1 2 = .ok (.putfield 136, 3) := by decide +kernel
theorem dc_Mod_cut_5 : decode M_Mod_cut.2.1 5 = .ok (.iconst 0, 1) := by decide +kernel
theorem dc_Mod_cut_6 : decode M_Mod_cut.2.1 6 = .ok (.istore_n 1, 1) := by decide +kernel
theorem dc_Mod_cut_7 : decode M_Mod_cut.2.1 7 = .ok (.iload_n 1, 1) := by decide +kernel
theorem dc_Mod_cut_8 : decode M_Mod_cut.2.1 8 = .ok (.bipush 8, 2) := by decide +kernel
theorem dc_Mod_cut_10 : decode M_Mod_cut.2.1 10 = .ok (.if_icmp .ge 21, 3) := by decide +kernel
theorem dc_Mod_cut_13 : decode M_Mod_cut.2.1 13 = .ok (.aload_n 0, 1) := by decide +kernel
theorem dc_Mod_cut_14 : decode M_Mod_cut.2.1 14 = .ok (.iload_n 1, 1) := by decide +kernel
theorem dc_Mod_cut_15 : decode M_Mod_cut.2.1 15 = .ok (.invokevirtual 181, 3) := by decide +kernel
theorem dc_Mod_cut_18 : decode M_Mod_cut.2.1 18 = .ok (.aload_n 0, 1) := by decide +kernel
theorem dc_Mod_cut_19 : decode M_Mod_cut.2.1 19 = .ok (.getfield 94, 3) := by decide +kernel
theorem dc_Mod_cut_22 : decode M_Mod_cut.2.1 22 = .ok (.iload_n 1, 1) := by decide +kernel
theorem dc_Mod_cut_23 : decode M_Mod_cut.2.1 23 = .ok (.iconst 0, 1) := by decide +kernel
theorem dc_Mod_cut_24 : decode M_Mod_cut.2.1 24 = .ok (.iastore, 1) := by decide +kernel
theorem dc_Mod_cut_25 : decode M_Mod_cut.2.1 25 = .ok (.iinc 1 1, 3) := by decide +kernel
theorem dc_Mod_cut_28 : decode M_Mod_cut.2.1 28 = .ok (.goto (-21), 3) := by decide +kernel
theorem dc_Mod_cut_31 : decode M_Mod_cut.2.1 31 = .ok (.return_, 1) := by decide +kernel
set_option maxRecDepth 20000 in
theorem e_Mod_cut_0 {d : Nat} {σ : PH} {K : PO → PH → Prop} (x0 : Nat) (h : sh σ x0 = (1, 11) ∧ (∀ σ1 : PH, σ1 = pI σ 704 x0 0 → PW (d + 1) M_Mod_cut 7 [.ref x0, .int 0] [] σ1 K)) : PW (d + 1) M_Mod_cut 0 [.ref x0, uu] [] σ K := by
  refine pw_aload_n dc_Mod_cut_0 rfl rfl ?_
  refine pw_iconst (v := 0) dc_Mod_cut_1 (by decide) ?_
  obtain ⟨hs1, h⟩ := h
  have h := h _ rfl
  refine pw_putI (c := 11) (k := 0) (f := 704) dc_Mod_cut_2 fl_Mod_136 (Or.inl rfl) rfl rfl hs1 ?_
  refine pw_iconst (v := 0) dc_Mod_cut_5 (by decide) ?_
  refine pw_istore_n dc_Mod_cut_6 (by decide) ?_
  exact h
set_option maxRecDepth 20000 in
theorem e_Mod_cut_7 {d : Nat} {σ : PH} {K : PO → PH → Prop} (x0 : Nat) (x1 : Int32) (h : (if 8 ≤ x1 then K (.inl none) σ else sh σ x0 = (1, 11) ∧ PW d M_Mod_forget 0 [.ref x0, .int x1] [] σ (kV (fun σ1 => sh σ1 x0 = (1, 11) ∧ (∃ b1 : Nat, gR σ1 735 x0 = some b1 ∧ (∃ n1 : Nat, sh σ1 b1 = (2, n1) ∧ vp_in x1 n1 ∧ (∀ σ2 : PH, σ2 = uI σ1 b1 (ix x1) 0 → PW (d + 1) M_Mod_cut 7 [.ref x0, .int (x1 + 1)] [] σ2 K)))) K))) : PW (d + 1) M_Mod_cut 7 [.ref x0, .int x1] [] σ K := by
  refine pw_iload_n dc_Mod_cut_7 rfl ?_
  refine pw_bipush (v := 8) dc_Mod_cut_8 (by decide) ?_
  refine pw_icmp_ge (tgt := 31) dc_Mod_cut_10 (by decide) (fun hc => ?_) (fun hc => ?_)
  · have h := ite_t h hc
    exact pw_vret dc_Mod_cut_31 rfl h
  · have h := ite_f h hc
    refine pw_aload_n dc_Mod_cut_13 rfl rfl ?_
    refine pw_iload_n dc_Mod_cut_14 rfl ?_
    obtain ⟨hs1, h⟩ := h
    refine pw_callV (vs := [.int x1]) (st := []) (b := x0) (cn := 11) dc_Mod_cut_15 cq_Mod_forget (List.mem_of_getElem? (i := 1155) (by decide +kernel)) (List.mem_of_getElem? (i := 30) (by decide +kernel)) (List.mem_of_getElem? (i := 1153) (by decide +kernel)) rfl hs1 rfl rfl (by decide) (cat_cons rfl (cat_nil)) (Nat.le_of_ble_eq_true rfl) (PW.mono (kV_kN (fun σ1 h => ?_)) h)
    refine pw_aload_n dc_Mod_cut_18 rfl rfl ?_
    obtain ⟨hs2, h⟩ := h
    refine pw_getR (c := 11) (k := 31) (f := 735) dc_Mod_cut_19 fl_Mod_94 rfl rfl hs2 ?_
    obtain ⟨b1, hb1, h⟩ := h
    refine PW.top (v' := .ref b1) (congrArg va_rf hb1) ?_
    refine pw_iload_n dc_Mod_cut_22 rfl ?_
    refine pw_iconst (v := 0) dc_Mod_cut_23 (by decide) ?_
    obtain ⟨n1, hs3, h⟩ := h
    obtain ⟨hi1, h⟩ := h
    have h := h _ rfl
    refine pw_iast dc_Mod_cut_24 hs3 hi1 ?_
    refine pw_iincv (v := 1) dc_Mod_cut_25 (by decide) rfl (by decide) ?_
    refine pw_goto (tgt := 7) dc_Mod_cut_28 (by decide) ?_
    exact h
theorem dc_Mod_count_0 : decode M_Mod_count.2.1 0 = .ok (.aload_n 0, 1) := by decide +kernel
theorem dc_Mod_count_1 : decode M_Mod_count.2.1 1 = .ok (.iconst 0, 1) := by decide +kernel
theorem dc_Mod_count_2 : decode M_Mod_count.2.1 2 = .ok (.putfield 136, 3) := by decide +kernel
theorem dc_Mod_count_5 : decode M_Mod_count.2.1 5 = .ok (.iconst 0, 1) := by decide +kernel
theorem dc_Mod_count_6 : decode M_Mod_count.2.1 6 = .ok (.istore_n 2, 1) := by decide +kernel
theorem dc_Mod_count_7 : decode M_Mod_count.2.1 7 = .ok (.iconst 1, 1) := by decide +kernel
theorem dc_Mod_count_8 : decode M_Mod_count.2.1 8 = .ok (.istore_n 3, 1) := by decide +kernel
theorem dc_Mod_count_9 : decode M_Mod_count.2.1 9 = .ok (.iload_n 3, 1) := by decide +kernel
theorem dc_Mod_count_10 : decode M_Mod_count.2.1 10 = .ok (.aload_n 0, 1) := by decide +kernel
theorem dc_Mod_count_11 : decode M_Mod_count.2.1 11 = .ok (.getfield 235, 3) := by decide +kernel
theorem dc_Mod_count_14 : decode M_Mod_count.2.1 14 = .ok (.if_icmp .gt 26, 3) := by decide +kernel
theorem dc_Mod_count_17 : decode M_Mod_count.2.1 17 = .ok (.aload_n 0, 1) := by decide +kernel
theorem dc_Mod_count_18 : decode M_Mod_count.2.1 18 = .ok (.getfield 73, 3) := by decide +kernel
theorem dc_Mod_count_21 : decode M_Mod_count.2.1 21 = .ok (.iload_n 3, 1) := by decide +kernel
theorem dc_Mod_count_22 : decode M_Mod_count.2.1 22 = .ok (.iaload, 1) := by decide +kernel
theorem dc_Mod_count_23 : decode M_Mod_count.2.1 23 = .ok (.ifCond .le 9, 3) := by decide +kernel
theorem dc_Mod_count_26 : decode M_Mod_count.2.1 26 = .ok (.iload_n 2, 1) := by decide +kernel
theorem dc_Mod_count_27 : decode M_Mod_count.2.1 27 = .ok (.iconst 1, 1) := by decide +kernel
theorem dc_Mod_count_28 : decode M_Mod_count.2.1 28 = .ok (.iadd, 1) := by decide +kernel
theorem dc_Mod_count_29 : decode M_Mod_count.2.1 29 = .ok (.goto 4, 3) := by decide +kernel
theorem dc_Mod_count_32 : decode M_Mod_count.2.1 32 = .ok (.iload_n 2, 1) := by decide +kernel
theorem dc_Mod_count_33 : decode M_Mod_count.2.1 33 = .ok (.istore_n 2, 1) := by decide +kernel
theorem dc_Mod_count_34 : decode M_Mod_count.2.1 34 = .ok (.iinc 3 1, 3) := by decide +kernel
theorem dc_Mod_count_37 : decode M_Mod_count.2.1 37 = .ok (.goto (-28), 3) := by decide +kernel
theorem dc_Mod_count_40 : decode M_Mod_count.2.1 40 = .ok (.iload_n 1, 1) := by decide +kernel
theorem dc_Mod_count_41 : decode M_Mod_count.2.1 41 = .ok (.ifCond .ne 10, 3) := by decide +kernel
theorem dc_Mod_count_44 : decode M_Mod_count.2.1 44 = .ok (.aload_n 0, 1) := by decide +kernel
theorem dc_Mod_count_45 : decode M_Mod_count.2.1 45 = .ok (.getfield 247, 3) := by decide +kernel
theorem dc_Mod_count_48 : decode M_Mod_count.2.1 48 = .ok (.goto 25, 3) := by decide +kernel
theorem dc_Mod_count_51 : decode M_Mod_count.2.1 51 = .ok (.iload_n 1, 1) := by decide +kernel
theorem dc_Mod_count_52 : decode M_Mod_count.2.1 52 = .ok (.iconst 1, 1) := by decide +kernel
theorem dc_Mod_count_53 : decode M_Mod_count.2.1 53 = .ok (.if_icmp .ne 10, 3) := by decide +kernel
theorem dc_Mod_count_56 : decode M_Mod_count.2.1 56 = .ok (.aload_n 0, 1) := by decide +kernel
theorem dc_Mod_count_57 : decode M_Mod_count.2.1 57 = .ok (.getfield 235, 3) := by decide +kernel
theorem dc_Mod_count_60 : decode M_Mod_count.2.1 60 = .ok (.goto 13, 3) := by decide +kernel
theorem dc_Mod_count_63 : decode M_Mod_count.2.1 63 = .ok (.iload_n 1, 1) := by decide +kernel
theorem dc_Mod_count_64 : decode M_Mod_count.2.1 64 = .ok (.iconst 2, 1) := by decide +kernel
theorem dc_Mod_count_65 : decode M_Mod_count.2.1 65 = .ok (.if_icmp .ne 7, 3) := by decide +kernel
theorem dc_Mod_count_68 : decode M_Mod_count.2.1 68 = .ok (.iload_n 2, 1) := by decide +kernel
theorem dc_Mod_count_69 : decode M_Mod_count.2.1 69 = .ok (.goto 4, 3) := by decide +kernel
theorem dc_Mod_count_72 : decode M_Mod_count.2.1 72 = .ok (.iconst (-1), 1) := by decide +kernel
theorem dc_Mod_count_73 : decode M_Mod_count.2.1 73 = .ok (.ireturn, 1) := by decide +kernel
set_option maxRecDepth 20000 in
theorem e_Mod_count_0 {d : Nat} {σ : PH} {K : PO → PH → Prop} (x0 : Nat) (x1 : Int32) (h : sh σ x0 = (1, 11) ∧ (∀ σ1 : PH, σ1 = pI σ 704 x0 0 → PW d M_Mod_count 9 [.ref x0, .int x1, .int 0, .int 1] [] σ1 K)) : PW d M_Mod_count 0 [.ref x0, .int x1, uu, uu] [] σ K := by
  refine pw_aload_n dc_Mod_count_0 rfl rfl ?_
  refine pw_iconst (v := 0) dc_Mod_count_1 (by decide) ?_
  obtain ⟨hs1, h⟩ := h
  have h := h _ rfl
  refine pw_putI (c := 11) (k := 0) (f := 704) dc_Mod_count_2 fl_Mod_136 (Or.inl rfl) rfl rfl hs1 ?_
  refine pw_iconst (v := 0) dc_Mod_count_5 (by decide) ?_
  refine pw_istore_n dc_Mod_count_6 (by decide) ?_
  refine pw_iconst (v := 1) dc_Mod_count_7 (by decide) ?_
  refine pw_istore_n dc_Mod_count_8 (by decide) ?_
  exact h
set_option maxRecDepth 20000 in
theorem e_Mod_count_9 {d : Nat} {σ : PH} {K : PO → PH → Prop} (x0 : Nat) (x1 : Int32) (x2 : Int32) (x3 : Int32) (h : sh σ x0 = (1, 11) ∧ (if (gI σ 727 x0) < x3 then (if x1 = 0 then K (.inl (some (.int (gI σ 719 x0)))) σ else (if x1 = 1 then K (.inl (some (.int (gI σ 727 x0)))) σ else (if x1 = 2 then K (.inl (some (.int x2))) σ else K (.inl (some (.int ((-1))))) σ))) else (∃ b1 : Nat, gR σ 728 x0 = some b1 ∧ (∃ n1 : Nat, sh σ b1 = (2, n1) ∧ vp_in x3 n1 ∧ (if (eI σ b1 (ix x3)) ≤ 0 then PW d M_Mod_count 33 [.ref x0, .int x1, uu, .int x3] [.int x2] σ K else PW d M_Mod_count 33 [.ref x0, .int x1, uu, .int x3] [.int (x2 + 1)] σ K))))) : PW d M_Mod_count 9 [.ref x0, .int x1, .int x2, .int x3] [] σ K := by
  refine pw_iload_n dc_Mod_count_9 rfl ?_
  refine pw_aload_n dc_Mod_count_10 rfl rfl ?_
  obtain ⟨hs1, h⟩ := h
  refine pw_getI (c := 11) (k := 23) (f := 727) dc_Mod_count_11 fl_Mod_235 rfl rfl hs1 ?_
  refine pw_icmp_gt (tgt := 40) dc_Mod_count_14 (by decide) (fun hc => ?_) (fun hc => ?_)
  · have h := ite_t h hc
    refine pw_iload_n dc_Mod_count_40 rfl ?_
    refine pw_if_ne (tgt := 51) dc_Mod_count_41 (by decide) (fun hc => ?_) (fun hc => ?_)
    · have h := ite_f h hc
      refine pw_iload_n dc_Mod_count_51 rfl ?_
      refine pw_iconst (v := 1) dc_Mod_count_52 (by decide) ?_
      refine pw_icmp_ne (tgt := 63) dc_Mod_count_53 (by decide) (fun hc => ?_) (fun hc => ?_)
      · have h := ite_f h hc
        refine pw_iload_n dc_Mod_count_63 rfl ?_
        refine pw_iconst (v := 2) dc_Mod_count_64 (by decide) ?_
        refine pw_icmp_ne (tgt := 72) dc_Mod_count_65 (by decide) (fun hc => ?_) (fun hc => ?_)
        · have h := ite_f h hc
          refine pw_iconst (v := (-1)) dc_Mod_count_72 (by decide) ?_
          exact pw_iret dc_Mod_count_73 rfl rfl h
        · have h := ite_t h hc
          refine pw_iload_n dc_Mod_count_68 rfl ?_
          refine pw_goto (tgt := 73) dc_Mod_count_69 (by decide) ?_
          exact pw_iret dc_Mod_count_73 rfl rfl h
      · have h := ite_t h hc
        refine pw_aload_n dc_Mod_count_56 rfl rfl ?_
        refine pw_getI (c := 11) (k := 23) (f := 727) dc_Mod_count_57 fl_Mod_235 rfl rfl hs1 ?_
        refine pw_goto (tgt := 73) dc_Mod_count_60 (by decide) ?_
        exact pw_iret dc_Mod_count_73 rfl rfl h
    · have h := ite_t h hc
      refine pw_aload_n dc_Mod_count_44 rfl rfl ?_
      refine pw_getI (c := 11) (k := 15) (f := 719) dc_Mod_count_45 fl_Mod_247 rfl rfl hs1 ?_
      refine pw_goto (tgt := 73) dc_Mod_count_48 (by decide) ?_
      exact pw_iret dc_Mod_count_73 rfl rfl h
  · have h := ite_f h hc
    refine pw_aload_n dc_Mod_count_17 rfl rfl ?_
    refine pw_getR (c := 11) (k := 24) (f := 728) dc_Mod_count_18 fl_Mod_73 rfl rfl hs1 ?_
    obtain ⟨b1, hb1, h⟩ := h
    refine PW.top (v' := .ref b1) (congrArg va_rf hb1) ?_
    refine pw_iload_n dc_Mod_count_21 rfl ?_
    obtain ⟨n1, hs2, h⟩ := h
    obtain ⟨hi1, h⟩ := h
    refine pw_iald dc_Mod_count_22 hs2 hi1 ?_
    refine pw_if_le (tgt := 32) dc_Mod_count_23 (by decide) (fun hc => ?_) (fun hc => ?_)
    · have h := ite_t h hc
      refine pw_iload_n dc_Mod_count_32 rfl ?_
      refine PW.drop (ls' := [.ref x0, .int x1, uu, .int x3]) ⟨Or.inl rfl, Or.inl rfl, Or.inr rfl, Or.inl rfl, trivial⟩ ?_
      exact h
    · have h := ite_f h hc
      refine pw_iload_n dc_Mod_count_26 rfl ?_
      refine pw_iconst (v := 1) dc_Mod_count_27 (by decide) ?_
      refine pw_iadd dc_Mod_count_28 ?_
      refine pw_goto (tgt := 33) dc_Mod_count_29 (by decide) ?_
      refine PW.drop (ls' := [.ref x0, .int x1, uu, .int x3]) ⟨Or.inl rfl, Or.inl rfl, Or.inr rfl, Or.inl rfl, trivial⟩ ?_
      exact h
set_option maxRecDepth 20000 in
theorem e_Mod_count_33 {d : Nat} {σ : PH} {K : PO → PH → Prop} (x0 : Nat) (x1 : Int32) (x3 : Int32) (y0 : Int32) (h : PW d M_Mod_count 9 [.ref x0, .int x1, .int y0, .int (x3 + 1)] [] σ K) : PW d M_Mod_count 33 [.ref x0, .int x1, uu, .int x3] [.int y0] σ K := by
  refine pw_istore_n dc_Mod_count_33 (by decide) ?_
  refine pw_iincv (v := 1) dc_Mod_count_34 (by decide) rfl (by decide) ?_
  refine pw_goto (tgt := 9) dc_Mod_count_37 (by decide) ?_
  exact h
