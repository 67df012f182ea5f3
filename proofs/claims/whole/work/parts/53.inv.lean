/-! ===== what holds of every state stays so ===== -/
def SmF (c : Nat) (M M' : List MS) : Prop := M.length ≤ M'.length ∧ SmT M M' ∧ ∀ m, 1 ≤ m → m ≤ M.length → (msg M' m).2.2.2 c = (msg M m).2.2.2 c
section InvS
variable {S : SP} {T T' c : Nat} {M M' : List MS} {s : CS}
theorem SmF.rf : SmF c M M := ⟨Nat.le_refl _, fun _ _ _ => ⟨rfl, rfl, rfl⟩, fun _ _ _ => rfl⟩
theorem InvC.cg (h : InvC M c T s) (hT : T ≤ T') (hs : SmF c M M') : InvC M' c T' s := by
  obtain ⟨j1, j2, j3, j4, j5, j6, j7, j8, j9, j10, j11, j12, j13⟩ := h
  obtain ⟨s1, s2, s3⟩ := hs
  refine ⟨by omega, j2, j3, j4, j5, j6, by omega, by omega, fun q => ?_, j10, j11, fun p hp => ?_, j13⟩
  · obtain ⟨q1, q2, q3, q4⟩ := j9 q
    rw [tape_cg (s2 _ (by omega) j8), s3 _ (by omega) j8]
    exact ⟨q1, q2, q3, q4⟩
  · obtain ⟨q1, q2, q3, q4, q5⟩ := j12 p hp
    exact ⟨q1, by omega, q3, q4, by rw [s3 _ q1 q2]; exact q5⟩
theorem Inv.mo (h : Inv S T) (hT : T ≤ T') : Inv S T' := ⟨h.1, h.2.1, h.2.2.1, fun c hc => (h.2.2.2.1 c hc).cg hT SmF.rf, h.2.2.2.2⟩
/-- a channel changed -/
theorem Inv.chan (h : Inv S T) (hT : T ≤ T') (hs : InvC S.2.1 c T' s) : Inv (uC S c s) T' := by
  refine ⟨h.1, h.2.1, h.2.2.1, fun x hx => ?_, h.2.2.2.2⟩
  show InvC S.2.1 x T' (if x = c then s else S.1 x)
  by_cases hxc : x = c
  · rw [if_pos hxc, hxc]; exact hs
  · rw [if_neg hxc]; exact (h.2.2.2.1 x hx).cg hT SmF.rf
/-- a channel and a fate on it changed -/
theorem Inv.fate {m F : Nat} (h : Inv S T) (hT : T ≤ T') (h1 : 1 ≤ m) (h2 : m ≤ S.2.1.length) (hs : InvC (uFate S.2.1 m c F) c T' s) : Inv (uM (uC S c s) (uFate S.2.1 m c F)) T' := by
  have hl : (uFate S.2.1 m c F).length = S.2.1.length := by unfold uFate; rw [List.length_set]
  refine ⟨by show (uFate S.2.1 m c F).length ≤ 10; rw [hl]; exact h.1, h.2.1, h.2.2.1, fun x hx => ?_, h.2.2.2.2⟩
  show InvC (uFate S.2.1 m c F) x T' (if x = c then s else S.1 x)
  by_cases hxc : x = c
  · rw [if_pos hxc, hxc]; exact hs
  · rw [if_neg hxc]
    refine (h.2.2.2.1 x hx).cg hT ⟨by omega, SmT.fate h1 h2, fun y y1 y2 => ?_⟩
    unfold uFate
    rw [msg_set h1 h2 y1]
    by_cases hym : y = m
    · rw [if_pos hym, hym]
      show (if x = c then F else _) = _
      rw [if_neg hxc]
    · rw [if_neg hym]
theorem msg_fate {m x F : Nat} (h1 : 1 ≤ m) (h2 : m ≤ M.length) (hx : 1 ≤ x) : (msg (uFate M m c F) x).2.2.2 c = if x = m then F else (msg M x).2.2.2 c := by
  unfold uFate
  rw [msg_set h1 h2 hx]
  by_cases hxm : x = m
  · rw [if_pos hxm, if_pos hxm]
    show (if c = c then F else _) = F
    rw [if_pos rfl]
  · rw [if_neg hxm, if_neg hxm]
theorem fwF_le (n : Nat) : fwF M c n ≤ n ∧ (fwF M c n ≠ 0 → (msg M (fwF M c n)).2.2.2 c = 1) := by
  induction n with
  | zero => exact ⟨Nat.le_refl _, fun q => absurd rfl q⟩
  | succ n ih =>
    rw [fwF]
    by_cases h : (msg M (n + 1)).2.2.2 c = 1 ∧ (fwF M c n = 0 ∨ (msg M (n + 1)).1 < (msg M (fwF M c n)).1)
    · rw [if_pos h]; exact ⟨Nat.le_refl _, fun _ => h.1⟩
    · rw [if_neg h]; exact ⟨by omega, ih.2⟩
theorem Inv.pick (h : Inv S T) (hT : T ≤ 600) (hc : c < 8) : Inv (spPick S c) (T + 1) := by
  have h0 := h
  obtain ⟨i1, i2, i3, i4, i5⟩ := h
  obtain ⟨j1, j2, j3, j4, j5, j6, j7, j8, j9, j10, j11, j12, j13⟩ := i4 c hc
  unfold spPick
  by_cases hz : (sSd (S.1 c)).1 ≠ 0
  · rw [if_pos hz]; exact h0.mo (by omega)
  · rw [if_neg hz]
    split
    · rename_i m k rest ha
      have hm : (m, k) ∈ sAsk (S.1 c) := by rw [ha]; exact List.mem_cons_self ..
      obtain ⟨q1, q2, q3, q4, q5⟩ := j12 (m, k) (Or.inr hm)
      refine h0.chan (by omega) ⟨by show (sG (S.1 c)).length ≤ _; omega, j2, j3, j4, j5, j6, by show sLn (S.1 c) ≤ _; omega, q2, fun _ => ⟨q3, q4, ?_, fun q => absurd q (by show ¬ (true = false); decide)⟩, j10, ?_, fun p hp => ?_, j13⟩
      · show (run (tape (msg S.2.1 m) k true) 0).1 < (tape (msg S.2.1 m) k true).length
        have := @tape_pos (msg S.2.1 m) k true
        show 0 < _
        omega
      · show rest.length ≤ 3
        rw [ha] at j11
        simp at j11
        omega
      · rcases hp with hp | hp
        · exact j12 p (Or.inl hp)
        · exact j12 p (Or.inr (by rw [ha]; exact List.mem_cons_of_mem _ hp))
    · rename_i ha
      by_cases hf : fwF S.2.1 c S.2.1.length = 0
      · rw [if_pos hf]; exact h0.mo (by omega)
      · rw [if_neg hf]
        obtain ⟨f1, f2⟩ := @fwF_le c S.2.1 S.2.1.length
        have f2 := f2 hf
        have hnb : nb (sLn (S.1 c)) = sLn (S.1 c) + 1 := by unfold nb; rw [if_pos (by omega)]
        rw [hnb]
        refine h0.fate (by omega) (by omega) f1 ⟨by show (sG (S.1 c)).length ≤ _; omega, j2, j3, j4, j5, j6, by show sLn (S.1 c) + 1 ≤ _; omega, by show _ ≤ (uFate _ _ _ _).length; unfold uFate; rw [List.length_set]; exact f1, fun _ => ⟨by show 1 ≤ sLn (S.1 c) + 1; omega, Nat.le_refl _, ?_, fun _ => ⟨rfl, ?_, fun p hp => ?_⟩⟩, j10, Nat.zero_le _, fun p hp => ?_, j13⟩
        · show 0 < (tape _ _ _).length
          exact Nat.lt_of_lt_of_le (by decide) tape_pos
        · show (msg (uFate S.2.1 (fwF S.2.1 c S.2.1.length) c 2) (fwF S.2.1 c S.2.1.length)).2.2.2 c = 2
          rw [msg_fate (by omega) f1 (by omega), if_pos rfl]
        · have := j12 p (Or.inl hp)
          show p.2 < sLn (S.1 c) + 1
          omega
        · rcases hp with hp | hp
          · obtain ⟨q1, q2, q3, q4, q5⟩ := j12 p (Or.inl hp)
            refine ⟨q1, by unfold uFate; rw [List.length_set]; exact q2, q3, by show p.2 ≤ sLn (S.1 c) + 1; omega, ?_⟩
            rw [msg_fate (by omega) f1 q1, if_neg (fun z => by rw [z] at q5; omega)]
            exact q5
          · cases hp
theorem last3_sub {l : List (Nat × Nat)} {p : Nat × Nat} (h : p ∈ last3 l) : p ∈ l := List.mem_of_mem_drop h
theorem Inv.step (h : Inv S T) (hc : c < 8) (hz : (sSd (S.1 c)).1 ≠ 0) : Inv (spStep S c) T := by
  have h0 := h
  obtain ⟨i1, i2, i3, i4, i5⟩ := h
  obtain ⟨j1, j2, j3, j4, j5, j6, j7, j8, j9, j10, j11, j12, j13⟩ := i4 c hc
  obtain ⟨k1, k2, k3, k4⟩ := j9 hz
  unfold spStep
  by_cases hr : (run (sdT S c) (sOut (S.1 c) + 1)).1 < (sdT S c).length
  · rw [if_pos hr]
    exact h0.chan (Nat.le_refl _) ⟨j1, j2, j3, j4, j5, j6, j7, j8, fun _ => ⟨k1, k2, hr, k4⟩, j10, j11, j12, j13⟩
  · rw [if_neg hr]
    by_cases ha : (sSd (S.1 c)).2.2 = true
    · rw [if_pos ha]
      exact h0.chan (Nat.le_refl _) ⟨j1, j2, j3, j4, j5, j6, j7, Nat.zero_le _, fun q => absurd rfl q, j10, j11, j12, j13⟩
    · rw [if_neg ha]
      obtain ⟨l1, l2, l3⟩ := k4 (by simpa using ha)
      have hne : ∀ p, (p ∈ sSent (S.1 c) ∨ p ∈ sAsk (S.1 c)) → p.1 ≠ (sSd (S.1 c)).1 := by
        intro p hp e
        have := j12 p hp
        rw [e, l2] at this
        omega
      have hl : (uFate S.2.1 (sSd (S.1 c)).1 c ((sSd (S.1 c)).2.1 + 2)).length = S.2.1.length := by unfold uFate; rw [List.length_set]
      have hpw : (sSent (S.1 c) ++ [((sSd (S.1 c)).1, (sSd (S.1 c)).2.1)]).Pairwise (fun p q => p.2 < q.2) := by
        rw [List.pairwise_append]
        refine ⟨j13, List.pairwise_singleton _ _, fun p hp q hq => ?_⟩
        rw [List.mem_singleton.mp hq]
        have := l3 p hp
        show p.2 < (sSd (S.1 c)).2.1
        omega
      refine h0.fate (Nat.le_refl _) (by omega) j8 ⟨j1, j2, j3, j4, j5, j6, j7, Nat.zero_le _, fun q => absurd rfl q, ?_, j11, fun p hp => ?_, ?_⟩
      · show (last3 _).length ≤ 3
        unfold last3
        rw [List.length_drop]; omega
      · have old : (p ∈ sSent (S.1 c) ∨ p ∈ sAsk (S.1 c)) → 1 ≤ p.1 ∧ p.1 ≤ (uFate S.2.1 (sSd (S.1 c)).1 c ((sSd (S.1 c)).2.1 + 2)).length ∧ 1 ≤ p.2 ∧ p.2 ≤ sLn (S.1 c) ∧ (msg (uFate S.2.1 (sSd (S.1 c)).1 c ((sSd (S.1 c)).2.1 + 2)) p.1).2.2.2 c = p.2 + 2 := by
          intro hp
          obtain ⟨q1, q2, q3, q4, q5⟩ := j12 p hp
          exact ⟨q1, by omega, q3, q4, by rw [msg_fate (by omega) j8 q1, if_neg (hne p hp)]; exact q5⟩
        rcases hp with hp | hp
        · have hp : p ∈ last3 (sSent (S.1 c) ++ [((sSd (S.1 c)).1, (sSd (S.1 c)).2.1)]) := hp
          rcases List.mem_append.mp (last3_sub hp) with hp | hp
          · exact old (Or.inl hp)
          · rw [List.mem_singleton.mp hp]
            refine ⟨by show 1 ≤ (sSd (S.1 c)).1; omega, by show (sSd (S.1 c)).1 ≤ _; omega, k1, k2, ?_⟩
            rw [msg_fate (by omega) j8 (by show 1 ≤ (sSd (S.1 c)).1; omega), if_pos rfl]
        · exact old (Or.inr hp)
      · show (last3 _).Pairwise _
        exact hpw.sublist (List.drop_sublist _ _)
end InvS
