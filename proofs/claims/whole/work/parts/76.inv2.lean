/-! ===== what holds of every state stays so: the other calls ===== -/
section Inv2
variable {S : SP} {T c : Nat} {M : List MS} {s : CS}
theorem nbs_in : ∀ (n la x : Nat), x ∈ nbs la n → 1 ≤ x ∧ x ≤ 999 := by
  intro n
  induction n with
  | zero => intro la x hx; rw [nbs] at hx; exact absurd hx (List.not_mem_nil)
  | succ n ih =>
    intro la x hx
    rw [nbs] at hx
    rcases List.mem_cons.mp hx with q | q
    · rw [q]; exact nb_in
    · exact ih _ x q
theorem InvC.wNu {n : Nat} (h : InvC M c T s) (h1 : 1 ≤ n) (h2 : n ≤ 999) : InvC M c T (wNu s (tkL (sLa s) (sMi s) n) (tkM (sLa s) (sMi s) n)) := by
  obtain ⟨j1, j2, j3, j4, j5, j6, j7, j8, j9, j10, j11, j12, j13⟩ := h
  refine ⟨j1, j2, ?_, ?_, ?_, ?_, j7, j8, j9, j10, j11, j12, j13⟩
  · show 1 ≤ tkL (sLa s) (sMi s) n
    unfold tkL; split <;> omega
  · show tkL (sLa s) (sMi s) n ≤ 999
    unfold tkL; split <;> omega
  · show (tkM (sLa s) (sMi s) n).length ≤ 30
    unfold tkM
    split
    · rename_i hd
      have := of_decide_eq_true hd
      have ha := ahd_pos h1 h2 j3 j4
      rw [List.length_append, nbs_len]; omega
    · have := List.length_eraseIdx_le (sMi s) (plc (sMi s) n)
      omega
  · show ∀ x ∈ tkM (sLa s) (sMi s) n, 1 ≤ x ∧ x ≤ 999
    intro x hx
    unfold tkM at hx
    split at hx
    · rcases List.mem_append.mp hx with q | q
      · exact j6 x q
      · exact nbs_in _ _ x q
    · exact j6 x (List.mem_of_mem_eraseIdx hx)
theorem InvC.lose (h : InvC M c T s) : InvC M c T (lose s) := by
  obtain ⟨j1, j2, j3, j4, j5, j6, j7, j8, j9, j10, j11, j12, j13⟩ := h
  refine ⟨Nat.zero_le _, fun x hx => absurd hx (List.not_mem_nil), j3, j4, j5, j6, j7, j8, fun q => ?_, j10, j11, j12, j13⟩
  obtain ⟨k1, k2, k3, k4⟩ := j9 q
  exact ⟨k1, k2, Nat.lt_of_lt_of_le (by show 0 < 5; omega) tape_pos, k4⟩
theorem Inv.cas {C : List (Nat × List Nat)} (h : Inv S T) (hC : C.length ≤ 6) : Inv (uK S C) T := ⟨h.1, hC, h.2.2.1, h.2.2.2.1, h.2.2.2.2⟩
theorem Inv.addC {r : Nat} (h : Inv S T) : Inv (addC S r) T := by
  refine h.cas ?_
  split
  · rw [List.length_append, List.length_singleton]; omega
  · exact h.2.1
theorem SmF.snoc {x : MS} : SmF c M (M ++ [x]) := by
  have e : ∀ m, 1 ≤ m → m ≤ M.length → msg (M ++ [x]) m = msg M m := fun m m1 m2 => by rw [msg_snoc m1 (by omega), if_neg (by omega)]
  exact ⟨by rw [List.length_append]; omega, fun m m1 m2 => by rw [e m m1 m2]; exact ⟨rfl, rfl, rfl⟩, fun m m1 m2 => by rw [e m m1 m2]⟩
theorem Inv.addM {xs : List Nat} (h : Inv S T) (hl : S.2.1.length < 10) : Inv (addM S xs) T := by
  refine ⟨?_, h.2.1, h.2.2.1, fun x hx => (h.2.2.2.1 x hx).cg (Nat.le_refl _) SmF.snoc, h.2.2.2.2⟩
  show (S.2.1 ++ [_]).length ≤ 10
  rw [List.length_append, List.length_singleton]; omega
theorem Inv.hnd {xs : List Nat} {lg : Bool} (h : Inv S T) (hc : c < 8) : Inv (hand S c xs lg).1 T := by
  have I1 := h.1
  unfold hand
  by_cases h1 : flt xs lg = 1
  · rw [if_pos h1]; exact h.addC
  · rw [if_neg h1]
    have hn1 : 1 ≤ hNum xs := by
      by_cases h : hNum xs = 0
      · exact absurd (by unfold flt; rw [if_pos h]) h1
      · omega
    have h0 : Inv (uC S c (wNu (S.1 c) (tkL (sLa (S.1 c)) (sMi (S.1 c)) (hNum xs)) (tkM (sLa (S.1 c)) (sMi (S.1 c)) (hNum xs)))) T := h.chan (Nat.le_refl _) ((h.2.2.2.1 c hc).wNu hn1 hNum_le)
    split
    · exact h
    · split
      · exact h
      · rename_i h10
        split
        · exact h0.addC
        · by_cases hL : Lost S (hInd xs)
          · rw [if_pos hL]; exact (h0.addM (by show S.2.1.length < 10; omega)).addC
          · rw [if_neg hL]; exact h0.addM (by show S.2.1.length < 10; omega)
theorem Inv.sign {x : Nat} (h : Inv S T) (hc : c < 8) : Inv (spSign S c x).1 (T + 1) := by
  unfold spSign
  split
  · exact h.mo (by omega)
  · split
    · have hh := h.hnd (xs := inkT (sG (S.1 c))) (lg := decide (60 < lnS (sG (S.1 c)))) hc
      exact (hh.chan (Nat.le_refl _) ((hh.2.2.2.1 c hc).wIn (Nat.zero_le _) (fun y hy => absurd hy (List.not_mem_nil)))).mo (by omega)
    · have IC := h.2.2.2.1 c hc
      refine h.chan (by omega) ((IC.cg (T' := T + 1) (by omega) SmF.rf).wIn ?_ (inkG_lt IC.2.1))
      have := IC.1
      unfold inkG
      split
      · omega
      · rw [List.length_append, List.length_singleton]; omega
theorem Inv.opn {is : Bool} (h : Inv S T) (hc : c < 8) : Inv (spOpen S c is) T := by
  refine h.chan (Nat.le_refl _) ?_
  have IC := h.2.2.2.1 c hc
  cases is with
  | true => rw [if_pos rfl]; exact IC
  | false =>
    rw [if_neg (by decide)]
    obtain ⟨j1, j2, j3, j4, j5, j6, j7, j8, j9, j10, j11, j12, j13⟩ := IC
    refine ⟨Nat.zero_le _, fun x hx => absurd hx (List.not_mem_nil), j3, j4, Nat.zero_le _, fun x hx => absurd hx (List.not_mem_nil), j7, j8, fun q => ?_, j10, j11, j12, j13⟩
    obtain ⟨k1, k2, k3, k4⟩ := j9 q
    exact ⟨k1, k2, Nat.lt_of_lt_of_le (by show 0 < 5; omega) tape_pos, k4⟩
theorem Inv.cut (h : Inv S T) : Inv (spCut S) T := ⟨h.1, h.2.1, h.2.2.1, fun x hx => (h.2.2.2.1 x hx).lose, h.2.2.2.2⟩
theorem Inv.rerun {k : Nat} (h : Inv S T) (hc : c < 8) (hl : (sAsk (S.1 c)).length < 3) : Inv (spRerun S c k).1 T := by
  unfold spRerun
  cases hf : fndS (sSent (S.1 c)) k with
  | none => exact h
  | some p =>
    obtain ⟨j1, j2, j3, j4, j5, j6, j7, j8, j9, j10, j11, j12, j13⟩ := h.2.2.2.1 c hc
    have hp : p ∈ sSent (S.1 c) := List.mem_of_find?_eq_some hf
    refine h.chan (Nat.le_refl _) ⟨j1, j2, j3, j4, j5, j6, j7, j8, j9, j10, ?_, fun q hq => ?_, j13⟩
    · show (sAsk (S.1 c) ++ [p]).length ≤ 3
      rw [List.length_append, List.length_singleton]; omega
    · rcases hq with hq | hq
      · exact j12 q (Or.inl hq)
      · have hq : q ∈ sAsk (S.1 c) ++ [p] := hq
        rcases List.mem_append.mp hq with hq | hq
        · exact j12 q (Or.inr hq)
        · rw [List.mem_singleton.mp hq]; exact j12 p (Or.inl hp)
theorem Uq.set {R : List RO} {k : Nat} {r : RO} (h : Uq R) (hk : k < R.length) (hr : r.1 = (R.getD k r0).1) : Uq (R.set k r) := by
  intro i j hi hj he
  rw [List.length_set] at hi hj
  have e : ∀ i, ((R.set k r).getD i r0).1 = (R.getD i r0).1 := fun i => by
    rw [getD_setR hk]
    by_cases hik : i = k
    · rw [if_pos hik, hr, hik]
    · rw [if_neg hik]
  rw [e, e] at he
  exact h i j hi hj he
theorem Uq.snoc {R : List RO} {r : RO} (h : Uq R) (hr : ¬ rix R r.1 < R.length) : Uq (R ++ [r]) := by
  obtain ⟨p1, p2, p3⟩ := rix_spec R r.1
  intro i j hi hj he
  rw [List.length_append, List.length_singleton] at hi hj
  rw [getD_snocR, getD_snocR] at he
  by_cases h1 : i < R.length
  · rw [if_pos h1] at he
    by_cases h2 : j < R.length
    · rw [if_pos h2] at he; exact h i j h1 h2 he
    · rw [if_neg h2, if_pos (by omega)] at he
      exact absurd he (p2 i (by omega))
  · rw [if_neg h1, if_pos (by omega)] at he
    by_cases h2 : j < R.length
    · rw [if_pos h2] at he
      exact absurd he.symm (p2 j (by omega))
    · omega
theorem Inv.rout {R : List RO} (h : Inv S T) (hl : R.length ≤ 12) (hu : Uq R) : Inv (uR' S R) T := ⟨h.1, h.2.1, hl, h.2.2.2.1, hu⟩
theorem Inv.route {i x a : Nat} (h : Inv S T) (hf : ¬ rtFull S.2.2.2 i) : Inv (uR' S (rtR S.2.2.2 i x a)) T := by
  have hu : Uq S.2.2.2 := h.2.2.2.2
  have h12 := h.2.2.1
  unfold rtR
  split
  · rename_i hr
    exact h.rout (by rw [List.length_set]; exact h12) (hu.set hr ((rix_spec S.2.2.2 i).2.2 hr).symm)
  · rename_i hr
    refine h.rout ?_ (hu.snoc hr)
    rw [List.length_append, List.length_singleton]
    by_cases h5 : S.2.2.2.length = 12
    · exact absurd ⟨hr, h5⟩ hf
    · omega
theorem Inv.group {i m : Nat} (h : Inv S T) (hf : ¬ gpFull S.2.2.2 i) : Inv (uR' S (gpR S.2.2.2 i m)) T := by
  have hu : Uq S.2.2.2 := h.2.2.2.2
  have h12 := h.2.2.1
  unfold gpR
  split
  · rename_i hr
    exact h.rout (by rw [List.length_set]; exact h12) (hu.set hr rfl)
  · rename_i hr
    refine h.rout ?_ (hu.snoc hr)
    rw [List.length_append, List.length_singleton]
    by_cases h5 : S.2.2.2.length = 12
    · exact absurd (Or.inl ⟨hr, h5⟩) hf
    · omega
theorem Inv.resub {i : Nat} (h : Inv S T) (hl : S.2.1.length < 10) : Inv (spResub S i).1 T := by
  have h6 := h.2.1
  unfold spResub
  split
  · exact h.cas (by rw [List.length_set]; exact h6)
  · split
    · exact h.cas (by rw [List.length_set]; exact h6)
    · exact (h.addM hl).cas (by rw [List.length_set]; exact h6)
theorem Inv.send (h : Inv S T) (hT : T ≤ 600) (hc : c < 8) : Inv (spSend S c).1 (T + 1) := by
  unfold spSend
  split
  · exact h.mo (by omega)
  · split
    · exact h.pick hT hc
    · rename_i hz
      exact (h.pick hT hc).step hc hz
theorem Inv.zero : Inv S0 0 := by
  refine ⟨by decide, by decide, by decide, fun c hc => ?_, fun i j hi => absurd hi (Nat.not_lt_zero _)⟩
  show InvC [] c 0 cs0
  exact ⟨by decide, fun x hx => absurd hx (List.not_mem_nil), by decide, by decide, by decide, fun x hx => absurd hx (List.not_mem_nil), by decide, by decide, fun q => absurd rfl q, by decide, by decide, fun p hp => by rcases hp with hp | hp <;> exact absurd hp (List.not_mem_nil), List.Pairwise.nil⟩
end Inv2
