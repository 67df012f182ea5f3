/-! ===== the contract of send ===== -/
section Send
variable {d : Nat} {σ σ' : PH} {K : PO → PH → Prop} {B : Nat} {S : SP}
theorem CHr.ou {σ' : PH} {a c : Nat} {M : List MS} {s : CS} (s' : CS) (h : CHr σ a B c M s) (hf : Fr (fun q => oP (a + 6) q ∨ (q < a ∨ a + 11 ≤ q)) σ σ') (h1 : sOp s' = sOp s) (h2 : sG s' = sG s) (h3 : sF s' = sF s) (h4 : sLa s' = sLa s) (h5 : sMi s' = sMi s) {M' : List MS} (ho : OUr σ' (a + 6) B c M' s') : CHr σ' a B c M' s' := by
  obtain ⟨b1, b2, b3, b4, b5, b6, b7, b8⟩ := h
  have fa := hf.ag (q := a) (by unfold oP; omega)
  exact ⟨by rw [fa.1]; exact b1, by rw [fa.2.1, h1]; exact b2, by rw [fa.2.2.1]; exact b3, by rw [fa.2.2.1]; exact b4, by rw [fa.2.2.1]; exact b5, by rw [h2, h3]; exact b6.ag (hf.ag (by unfold oP; omega)) (hf.ag (by unfold oP; omega)) (hf.ag (by unfold oP; omega)), by rw [h4, h5]; exact b7.ag (hf.ag (by unfold oP; omega)) (hf.ag (by unfold oP; omega)), ho⟩
theorem last3_rev {l : List (Nat × Nat)} {p : Nat × Nat} (h : l.length ≤ 3) : ((mA B p.1) :: l.reverse.map (fun p => mA B p.1)).take 3 = (last3 (l ++ [p])).reverse.map (fun p => mA B p.1) := by
  unfold last3
  match l, h with
  | [], _ => rfl
  | [a], _ => rfl
  | [a, b], _ => rfl
  | [a, b, c], _ => rfl
  | a :: b :: c :: e :: l, h => simp at h
theorem k_next {c T : Nat} (hC : CR σ B S) (hI : Inv S T) (hT : T ≤ 999) (hc : c < 8) (hz : (sSd (S.1 c)).1 ≠ 0) (hk : ∀ σ', CR σ' B (spStep S c) → Fr (dP B) σ σ' → K (.inl (some (.int (emi (sdT S c) (run (sdT S c) (sOut (S.1 c))))))) σ') : PW (d + 5) M_Outlet_nextSign 0 [.ref (cA B c + 6), uu, uu] [] σ K := by
  obtain ⟨i1, i2, i3, i4, i5⟩ := hI
  obtain ⟨j1, j2, j3, j4, j5, j6, j7, j8, j9, j10, j11, j12, j13⟩ := i4 c hc
  obtain ⟨k1, k2, k3, k4⟩ := j9 hz
  have hb := hC.2.2.2.1 c hc
  obtain ⟨b1, b2, b3, b4, b5, b6, b7, n, ag, tp, pos, fg, b8, b9⟩ := hC.2.2.2.1 c hc
  obtain ⟨q1, q2, q3, q4⟩ := b9 hz
  rw [if_neg hz] at b8
  subst q1 q2 q3
  have etp : sdT S c = tape (msg S.2.1 (sSd (S.1 c)).1) (sSd (S.1 c)).2.1 (sSd (S.1 c)).2.2 := rfl
  rw [← etp] at b8 q4 k3
  have hp : (run (sdT S c) (sOut (S.1 c))).1 = pos := by rw [← q4]
  have hg : (run (sdT S c) (sOut (S.1 c))).2 = fg := by rw [← q4]
  have hm := hC.2.2.2.2.1 (sSd (S.1 c)).1 (by omega) (by omega)
  have hrun : run (sdT S c) (sOut (S.1 c) + 1) = stp (sdT S c) (pos, fg) := by rw [q4]; rfl
  have wk : ∀ {σ' : PH}, Fr (oP (cA B c + 6)) σ σ' → Fr (fun q => oP (cA B c + 6) q ∨ (q < cA B c ∨ cA B c + 11 ≤ q)) σ σ' := fun h => h.mo (fun q hq => Or.inl hq)
  have wd' : ∀ {σ' : PH}, Fr (oP (cA B c + 6)) σ σ' → Fr (hP (cA B c)) σ σ' := fun h => h.mo (fun q hq => by unfold oP at hq; unfold hP; omega)
  have wD : ∀ {σ' : PH}, Fr (oP (cA B c + 6)) σ σ' → Fr (dP B) σ σ' := fun h => h.mo (fun q hq => by unfold oP cA at hq; unfold dP; omega)
  rw [← q4] at hk
  unfold emi at hk
  refine c_Outlet_nextSign (m := msg S.2.1 (sSd (S.1 c)).1) b8 k1 (by omega) hm (by unfold mA cA; omega) (fun y hy => ?_) (fun hs σ1 g1 f1 => ?_) (fun hs hl σ1 g1 f1 => ?_) (fun hs hl ha σ1 g1 f1 => ?_) (fun hs hl ha σ1 g1 m1 f1 => ?_)
  · obtain ⟨p, hp, rfl⟩ := List.mem_map.mp hy
    have := j12 p (Or.inl (List.mem_reverse.mp hp))
    exact (hC.2.2.2.2.1 p.1 this.1 (by omega)).1
  · have e : run (sdT S c) (sOut (S.1 c) + 1) = (pos, !fg) := by rw [hrun]; unfold stp; rw [if_pos hs]
    rw [if_pos hs] at hk
    unfold spStep at hk
    rw [e, if_pos (by show pos < _; omega)] at hk
    have hch : CHr σ1 (cA B c) B c S.2.1 (wOu (S.1 c) (sLn (S.1 c)) (sSd (S.1 c)) (sOut (S.1 c) + 1) (sSent (S.1 c)) (sAsk (S.1 c))) := CHr.ou (wOu (S.1 c) (sLn (S.1 c)) (sSd (S.1 c)) (sOut (S.1 c) + 1) (sSent (S.1 c)) (sAsk (S.1 c))) hb (wk f1) rfl rfl rfl rfl rfl ⟨(sSd (S.1 c)).2.1, (sSd (S.1 c)).2.2, sdT S c, pos, !fg, (show OU _ _ _ (if (sSd (S.1 c)).1 = 0 then _ else _) _ _ _ _ _ _ _ _ by rw [if_neg hz]; exact g1), fun _ => ⟨rfl, rfl, rfl, e.symm⟩⟩
    exact hk σ1 (hC.chan hc (wd' f1) hch) (wD f1)
  · have e : run (sdT S c) (sOut (S.1 c) + 1) = (pos + 1, fg) := by rw [hrun]; unfold stp; rw [if_neg (by rw [hs]; decide)]
    rw [if_neg (by rw [hs]; decide)] at hk
    unfold spStep at hk
    rw [e, if_pos hl] at hk
    have hch : CHr σ1 (cA B c) B c S.2.1 (wOu (S.1 c) (sLn (S.1 c)) (sSd (S.1 c)) (sOut (S.1 c) + 1) (sSent (S.1 c)) (sAsk (S.1 c))) := CHr.ou (wOu (S.1 c) (sLn (S.1 c)) (sSd (S.1 c)) (sOut (S.1 c) + 1) (sSent (S.1 c)) (sAsk (S.1 c))) hb (wk f1) rfl rfl rfl rfl rfl ⟨(sSd (S.1 c)).2.1, (sSd (S.1 c)).2.2, sdT S c, pos + 1, fg, (show OU _ _ _ (if (sSd (S.1 c)).1 = 0 then _ else _) _ _ _ _ _ _ _ _ by rw [if_neg hz]; exact g1), fun _ => ⟨rfl, rfl, rfl, e.symm⟩⟩
    exact hk σ1 (hC.chan hc (wd' f1) hch) (wD f1)
  · have e : run (sdT S c) (sOut (S.1 c) + 1) = (pos + 1, fg) := by rw [hrun]; unfold stp; rw [if_neg (by rw [hs]; decide)]
    rw [if_neg (by rw [hs]; decide)] at hk
    unfold spStep at hk
    rw [e, if_neg (by show ¬ pos + 1 < _; omega), if_pos ha] at hk
    have hch : CHr σ1 (cA B c) B c S.2.1 (wOu (S.1 c) (sLn (S.1 c)) (0, 0, false) 0 (sSent (S.1 c)) (sAsk (S.1 c))) := CHr.ou (wOu (S.1 c) (sLn (S.1 c)) (0, 0, false) 0 (sSent (S.1 c)) (sAsk (S.1 c))) hb (wk f1) rfl rfl rfl rfl rfl ⟨_, _, _, _, _, g1, fun q => absurd rfl q⟩
    exact hk σ1 (hC.chan hc (wd' f1) hch) (wD f1)
  · have e : run (sdT S c) (sOut (S.1 c) + 1) = (pos + 1, fg) := by rw [hrun]; unfold stp; rw [if_neg (by rw [hs]; decide)]
    rw [if_neg (by rw [hs]; decide)] at hk
    unfold spStep at hk
    rw [e, if_neg (by show ¬ pos + 1 < _; omega), if_neg (by rw [ha]; decide)] at hk
    have e3 : ((mA B (sSd (S.1 c)).1) :: (sSent (S.1 c)).reverse.map (fun p => mA B p.1)).take 3 = (last3 (sSent (S.1 c) ++ [((sSd (S.1 c)).1, (sSd (S.1 c)).2.1)])).reverse.map (fun p => mA B p.1) := last3_rev (p := ((sSd (S.1 c)).1, (sSd (S.1 c)).2.1)) j10
    rw [e3] at g1
    have hch : CHr σ1 (cA B c) B c (uFate S.2.1 (sSd (S.1 c)).1 c ((sSd (S.1 c)).2.1 + 2)) (wOu (S.1 c) (sLn (S.1 c)) (0, 0, false) 0 (last3 (sSent (S.1 c) ++ [((sSd (S.1 c)).1, (sSd (S.1 c)).2.1)])) (sAsk (S.1 c))) := by
      refine CHr.ou (wOu (S.1 c) (sLn (S.1 c)) (0, 0, false) 0 (last3 (sSent (S.1 c) ++ [((sSd (S.1 c)).1, (sSd (S.1 c)).2.1)])) (sAsk (S.1 c))) hb (f1.mo (fun q hq => ?_)) rfl rfl rfl rfl rfl ⟨_, _, _, _, _, g1, fun q => absurd rfl q⟩
      rcases hq with hq | hq
      · exact Or.inl hq
      · unfold mP mA at hq; unfold cA; omega
    refine hk σ1 (hC.fate hc i1 (fun x hx => (i4 x hx).2.2.2.2.2.2.2.1) (by omega) j8 f1 hch m1) (f1.mo (fun q hq => ?_))
    unfold oP mP mA cA at hq; unfold dP; omega
theorem firstWaiting_loop {c : Nat} (hC : CR σ B S) (hM : S.2.1.length ≤ 10) (hc : c < 8) (hk : K (.inl (some (va_rf (if fwF S.2.1 c S.2.1.length = 0 then none else some (mA B (fwF S.2.1 c S.2.1.length)))))) σ) : ∀ (m i : Nat), i + m = S.2.1.length → PW (d + 1) M_Desk_firstWaiting 4 [.ref B, .int (nI c), va_rf (if fwF S.2.1 c i = 0 then none else some (mA B (fwF S.2.1 c i))), .int (nI i), uu] [] σ K := by
  obtain ⟨a1, a2, a3, a4, a5, a6, a7, a8, a9, a10, a11, a12, a13, a14⟩ := hC.1
  intro m
  induction m with
  | zero =>
    intro i hi
    refine e_Desk_firstWaiting_4 B _ _ _ ?_
    simp (disch := omega) only [a1, a7, l_0, l_1, l_2, l_3, l_4, l_5, l_6, l_7, l_8, l_9, l_10, l_11, l_12, l_13, l_14, l_15, l_16, l_17, l_18, l_19, l_20, l_21, l_22, l_23, l_24, l_25, l_26, l_27, l_28, l_29, l_30, l_31, l_32, l_33, l_34, l_35, l_36, l_37, l_38, l_39, l_40, l_41, l_42, l_43, l_44, l_45, l_46, l_47, l_48, l_49, l_50, l_51, l_52, l_53, l_54, l_55, l_56, l_57, l_58, l_59, l_60, l_61, l_62, l_63, l_64, l_65, l_66, l_67, l_68, l_69, l_70, l_71, l_72, l_73, l_74, l_75, l_76, l_77, l_78, l_79, l_80, l_81, l_82, l_83, l_84, l_85, l_86, l_87, l_88, l_89, l_90, l_91, l_92, l_93, l_94, l_95, l_96, l_97, l_98, l_99, l_100, l_101, l_102, l_103, l_104, l_105, l_106, l_107, l_108, l_109, l_110, l_111, l_112, l_113, l_114, l_115, l_116, l_117, l_118, l_119, l_120, l_121, l_122, l_123, l_124, l_125, l_126, l_127, l_128, l_129, l_130, l_256, l_512, l_676, l_704, l_999, l_1000, l_4096, l_17576, l_32768, l_65535, l_456975, l_456976, l_m1, l_m2, in_iff, eq_m1, m1_eq, m1_lt, m1_le, le_m1, lt_m1, eq_m2, m2_m1, m1_m2, add_m1, m1_add, sub_n, mul_n, add_n, bo_n0, bo_n1, ch_n, lt_n, le_n, eq_n, ix_n, i2c_n, rem_n, div_n, kI_i, kI_x, kV_v, kV_x, kR_r, kR_n, kR_x, kHI_i, kHI_0, kHI_1, kHV_v, kHV_0, kHV_1, va_s, va_n, exists_eq_left', exists_eq_left, forall_eq, forall_eq', and_true, true_and, and_self, Option.some.injEq, Prod.mk.injEq, if_tt, if_ff, reduceIte, reduceCtorEq, not_true_eq_false, not_false_eq_true, Nat.reduceAdd, Nat.reduceMul, Nat.reduceSub, Nat.reduceLT, Nat.reduceLeDiff, Nat.reduceEqDiff, false_implies, true_implies, implies_true]
    rw [if_pos (by omega)]
    rw [show i = S.2.1.length by omega]; exact hk
  | succ m ih =>
    intro i hi
    have hm := hC.2.2.2.2.1 (i + 1) (by omega) (by omega)
    have hp1 := hm.2.2.2.2.2.2.2.2.1
    refine e_Desk_firstWaiting_4 B _ _ _ ⟨a1, ?_⟩
    rw [a7, if_neg (by rw [nI_le_iff (by omega) (by omega)]; omega)]
    refine ⟨B + 2, a3, 10, a11, in_n (by omega) (by decide), mA B (i + 1), by rw [ix_n (by omega)]; exact a12 i (by omega), hm.1, c_Message_waitsOn hm hc ?_⟩
    simp only [kI_i]
    have n48 : PW (d + 1) M_Desk_firstWaiting 48 [.ref B, .int (nI c), va_rf (if fwF S.2.1 c (i + 1) = 0 then none else some (mA B (fwF S.2.1 c (i + 1)))), .int (nI i), uu] [] σ K := by
      refine e_Desk_firstWaiting_48 B _ _ _ ?_
      rw [nI_1]
      exact ih (i + 1) (by omega)
    have h0 := @fwF_le c S.2.1 i
    by_cases hw : (msg S.2.1 (i + 1)).2.2.2 c = 1
    · rw [decide_eq_true hw, if_neg (by decide)]
      have n45 : (fwF S.2.1 c i = 0 ∨ (msg S.2.1 (i + 1)).1 < (msg S.2.1 (fwF S.2.1 c i)).1) → PW (d + 1) M_Desk_firstWaiting 45 [.ref B, .int (nI c), uu, .int (nI i), .ref (mA B (i + 1))] [] σ K := by
        intro q
        refine e_Desk_firstWaiting_45 B _ _ _ ?_
        have e2 : fwF S.2.1 c (i + 1) = i + 1 := if_pos ⟨hw, q⟩
        rw [e2, if_neg (by omega)] at n48
        exact n48
      by_cases hz : fwF S.2.1 c i = 0
      · rw [if_pos (by rw [if_pos hz])]
        exact n45 (Or.inl hz)
      · have hq := hC.2.2.2.2.1 (fwF S.2.1 c i) (by omega) (by omega)
        have hp2 := hq.2.2.2.2.2.2.2.2.1
        rw [if_neg (by rw [if_neg hz]; simp)]
        refine ⟨hm.1, mA B (fwF S.2.1 c i), by rw [if_neg hz], hq.1, ?_⟩
        rw [hq.2.2.2.2.2.2.2.1, hm.2.2.2.2.2.2.2.1]
        by_cases hle : (msg S.2.1 (fwF S.2.1 c i)).1 ≤ (msg S.2.1 (i + 1)).1
        · rw [if_pos ((nI_le_iff (by omega) (by omega)).mpr hle)]
          have e2 : fwF S.2.1 c (i + 1) = fwF S.2.1 c i := if_neg (fun q => by rcases q.2 with q | q <;> omega)
          rw [e2] at n48
          exact n48
        · rw [if_neg (fun q => hle ((nI_le_iff (by omega) (by omega)).mp q))]
          exact n45 (Or.inr (by omega))
    · rw [decide_eq_false hw, if_pos (by decide)]
      have e2 : fwF S.2.1 c (i + 1) = fwF S.2.1 c i := if_neg (fun q => hw q.1)
      rw [e2] at n48
      exact n48
theorem k_firstWaiting {c : Nat} (hC : CR σ B S) (hM : S.2.1.length ≤ 10) (hc : c < 8) (hk : K (.inl (some (va_rf (if fwF S.2.1 c S.2.1.length = 0 then none else some (mA B (fwF S.2.1 c S.2.1.length)))))) σ) : PW (d + 1) M_Desk_firstWaiting 0 [.ref B, .int (nI c), uu, uu, uu] [] σ K :=
  e_Desk_firstWaiting_0 B _ (firstWaiting_loop hC hM hc hk S.2.1.length 0 (by omega))
theorem k_send {x : Int32} {T : Nat} (hC : CR σ B S) (hI : Inv S T) (hT : T ≤ 600) (hR : Rm σ) (hkA : (x < 0 ∨ ¬ x ≤ 7) → K (.inr 0) (bump σ 1 6)) (hk : ∀ c, c < 8 → x = nI c → ∀ σ', CR σ' B (spSend S c).1 → Fr (dP B) σ σ' → K (.inl (some (.int (spSend S c).2))) σ') : PW (d + 7) M_Desk_send 0 [.ref B, .int x, uu] [] σ K := by
  refine e_Desk_send_0 B x (c_needWithin hR (fun h1 h2 => ?_) (fun h => hkA h))
  obtain ⟨c, hc, rfl⟩ := chanN h1 h2
  have hk := hk c hc rfl
  have hIp := hI.pick hT hc
  obtain ⟨i1, i2, i3, i4, i5⟩ := hI
  obtain ⟨j1, j2, j3, j4, j5, j6, j7, j8, j9, j10, j11, j12, j13⟩ := i4 c hc
  obtain ⟨a1, a2, a3, a4, a5, a6, a7, a8, a9, a10, a11, a12, a13, a14⟩ := hC.1
  have hb := hC.2.2.2.1 c hc
  obtain ⟨b1, b2, b3, b4, b5, b6, b7, n, ag, tp, pos, fg, b8, b9⟩ := hC.2.2.2.1 c hc
  simp only [kV_v]
  refine ⟨a1, B + 1, a2, 8, a9, in_n hc (by decide), cA B c, by rw [ix_n (by omega)]; exact a10 c hc, b1, ?_⟩
  rw [b2]
  unfold spSend at hk
  by_cases ho : sOp (S.1 c) = false
  · rw [if_pos ho] at hk
    rw [ho, if_pos (by decide)]
    exact hk σ hC Fr.rf
  · rw [if_neg ho] at hk
    have ho : sOp (S.1 c) = true := by simpa using ho
    rw [ho, if_neg (by decide)]
    refine ⟨cA B c + 6, b5, b8.1, c_Outlet_isIdle b8 ?_⟩
    simp only [kI_i]
    by_cases hz : (sSd (S.1 c)).1 = 0
    · rw [if_pos hz] at b8 ⊢
      rw [decide_eq_true rfl, if_neg (by decide)]
      refine ⟨b1, cA B c + 6, b5, b8.1, c_Outlet_startsAsked (mm := mmF B S.2.1) b8 (fun x hx => ?_) (fun hask => ?_) (fun x0 rest σ1 hask g1 f1 => ?_)⟩
      · obtain ⟨p, hp, rfl⟩ := List.mem_map.mp hx
        have := j12 p (Or.inr hp)
        rw [mmF_mA this.1]
        exact ⟨hC.2.2.2.2.1 p.1 this.1 (by omega), by unfold mA cA; omega, p.2, this.2.2.1, by omega, this.2.2.2.2⟩
      · -- nothing asked for: the first that waits
        have hask' : sAsk (S.1 c) = [] := List.map_eq_nil_iff.mp hask
        simp only [kI_i]
        rw [if_pos (by decide)]
        refine ⟨b1, cA B c + 6, b5, a1, k_firstWaiting hC i1 hc ?_⟩
        have ep : spPick S c = if fwF S.2.1 c S.2.1.length = 0 then S else uM (uC S c (wOu (S.1 c) (nb (sLn (S.1 c))) (fwF S.2.1 c S.2.1.length, nb (sLn (S.1 c)), false) 0 (sSent (S.1 c)) [])) (uFate S.2.1 (fwF S.2.1 c S.2.1.length) c 2) := by
          unfold spPick; rw [if_neg (fun q => q hz), hask']
        rw [hask'] at b8
        rw [ep] at hk hIp
        by_cases hf : fwF S.2.1 c S.2.1.length = 0
        · rw [if_pos hf]
          rw [if_pos hf, if_pos hz] at hk
          show kR _ _ (.inl (some .null)) σ
          simp only [kR_n]
          refine ⟨b8.1, c_Outlet_startNone ?_⟩
          simp only [kV_v]
          refine ⟨b1, cA B c + 6, b5, b8.1, c_Outlet_nextNone b8 ?_⟩
          simp only [kI_i]
          exact hk σ hC Fr.rf
        · rw [if_neg hf]
          rw [if_neg hf] at hk hIp
          obtain ⟨f1, f2⟩ := @fwF_le c S.2.1 S.2.1.length
          have hm := hC.2.2.2.2.1 (fwF S.2.1 c S.2.1.length) (by omega) (by omega)
          show kR _ _ (.inl (some (.ref _))) σ
          simp only [kR_r]
          refine ⟨b8.1, c_Outlet_startEntry b8 hm (by unfold mA cA; omega) (fun σ1 g1 m1 f3 => ?_)⟩
          simp only [kV_v]
          have hsm : SmT S.2.1 (uFate S.2.1 (fwF S.2.1 c S.2.1.length) c 2) := SmT.fate (by omega) f1
          have hC1 : CR σ1 B (uM (uC S c (wOu (S.1 c) (nb (sLn (S.1 c))) (fwF S.2.1 c S.2.1.length, nb (sLn (S.1 c)), false) 0 (sSent (S.1 c)) [])) (uFate S.2.1 (fwF S.2.1 c S.2.1.length) c 2)) := by
            have hch : CHr σ1 (cA B c) B c (uFate S.2.1 (fwF S.2.1 c S.2.1.length) c 2) (wOu (S.1 c) (nb (sLn (S.1 c))) (fwF S.2.1 c S.2.1.length, nb (sLn (S.1 c)), false) 0 (sSent (S.1 c)) []) := by
              refine CHr.ou (wOu (S.1 c) (nb (sLn (S.1 c))) (fwF S.2.1 c S.2.1.length, nb (sLn (S.1 c)), false) 0 (sSent (S.1 c)) []) hb (f3.mo (fun q hq => ?_)) rfl rfl rfl rfl rfl ⟨_, _, _, _, _, (show OU _ _ _ (if fwF S.2.1 c S.2.1.length = 0 then _ else _) _ _ _ _ _ _ _ _ by rw [if_neg hf]; exact g1), fun _ => ⟨rfl, rfl, ?_, rfl⟩⟩
              · rcases hq with hq | hq
                · exact Or.inl hq
                · unfold mP mA at hq; unfold cA; omega
              · exact (tape_cg (hsm _ (by show 1 ≤ fwF S.2.1 c S.2.1.length; omega) f1)).symm
            exact hC.fate hc i1 (fun x hx => (i4 x hx).2.2.2.2.2.2.2.1) (by omega) f1 f3 hch m1
          have hb1 := hC1.2.2.2.1 c hc
          obtain ⟨d1, d2, d3, d4, d5, d6, d7, n', ag', tp', pos', fg', d8, d9⟩ := hC1.2.2.2.1 c hc
          have hz1 : (sSd ((uM (uC S c (wOu (S.1 c) (nb (sLn (S.1 c))) (fwF S.2.1 c S.2.1.length, nb (sLn (S.1 c)), false) 0 (sSent (S.1 c)) [])) (uFate S.2.1 (fwF S.2.1 c S.2.1.length) c 2)).1 c)).1 ≠ 0 := by
            show (sSd (if c = c then _ else _)).1 ≠ 0
            rw [if_pos rfl]; exact hf
          refine ⟨d1, cA B c + 6, d5, d8.1, k_next hC1 hIp (by omega) hc hz1 (fun σ2 h2 f4 => ?_)⟩
          simp only [kI_i]
          rw [if_neg hz1] at hk
          refine hk σ2 h2 ((f3.mo (fun q hq => ?_)).tr f4)
          unfold oP mP mA cA at hq; unfold dP; omega
      · -- one that was asked for
        obtain ⟨p, rest', hask', e1, e2⟩ := List.map_eq_cons_iff.mp hask
        have hp := j12 p (Or.inr (by rw [hask']; exact List.mem_cons_self ..))
        rw [← e1, mmF_mA hp.1, hp.2.2.2.2, show p.2 + 2 - 2 = p.2 by omega] at g1
        rw [← e2] at g1
        simp only [kI_i]
        rw [if_neg (by decide)]
        have ep : spPick S c = uC S c (wOu (S.1 c) (sLn (S.1 c)) (p.1, p.2, true) 0 (sSent (S.1 c)) rest') := by
          unfold spPick; rw [if_neg (fun q => q hz), hask']
        rw [ep] at hk hIp
        have hC1 : CR σ1 B (uC S c (wOu (S.1 c) (sLn (S.1 c)) (p.1, p.2, true) 0 (sSent (S.1 c)) rest')) := by
          have hch : CHr σ1 (cA B c) B c S.2.1 (wOu (S.1 c) (sLn (S.1 c)) (p.1, p.2, true) 0 (sSent (S.1 c)) rest') := CHr.ou (wOu (S.1 c) (sLn (S.1 c)) (p.1, p.2, true) 0 (sSent (S.1 c)) rest') hb (f1.mo (fun q hq => Or.inl hq)) rfl rfl rfl rfl rfl ⟨_, _, _, _, _, (show OU _ _ _ (if p.1 = 0 then _ else _) _ _ _ _ _ _ _ _ by rw [if_neg (by omega)]; exact g1), fun _ => ⟨rfl, rfl, rfl, rfl⟩⟩
          exact hC.chan hc (f1.mo (fun q hq => by unfold oP at hq; unfold hP; omega)) hch
        obtain ⟨d1, d2, d3, d4, d5, d6, d7, n', ag', tp', pos', fg', d8, d9⟩ := hC1.2.2.2.1 c hc
        have hz1 : (sSd ((uC S c (wOu (S.1 c) (sLn (S.1 c)) (p.1, p.2, true) 0 (sSent (S.1 c)) rest')).1 c)).1 ≠ 0 := by
          show (sSd (if c = c then _ else _)).1 ≠ 0
          rw [if_pos rfl]
          show p.1 ≠ 0
          omega
        refine ⟨d1, cA B c + 6, d5, d8.1, k_next hC1 hIp (by omega) hc hz1 (fun σ2 h2 f4 => ?_)⟩
        simp only [kI_i]
        rw [if_neg hz1] at hk
        refine hk σ2 h2 ((f1.mo (fun q hq => ?_)).tr f4)
        unfold oP cA at hq; unfold dP; omega
    · have ep : spPick S c = S := by unfold spPick; rw [if_pos hz]
      rw [ep] at hk hIp
      rw [if_neg hz] at hk ⊢
      rw [decide_eq_false (by simp), if_pos (by decide)]
      refine ⟨b1, cA B c + 6, b5, b8.1, k_next hC hIp (by omega) hc hz (fun σ1 h1 f1 => ?_)⟩
      simp only [kI_i]
      exact hk σ1 h1 f1
end Send
