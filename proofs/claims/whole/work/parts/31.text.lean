/-! ===== contracts of Text ===== -/
/-- the Text at t holds the characters xs; its array lies behind it -/
def TX (σ : PH) (t cap : Nat) (xs : List Nat) : Prop := sh σ t = (1, 3) ∧ gR σ 192 t = some (t + 1) ∧ sh σ (t + 1) = (3, cap) ∧ gI σ 193 t = nI xs.length ∧ xs.length ≤ cap ∧ cap ≤ 1000 ∧ (∀ i, i < xs.length → eI σ (t + 1) i = nI (xs.getD i 0)) ∧ ∀ x ∈ xs, x < 128
theorem getD_lt {xs : List Nat} (h : ∀ x ∈ xs, x < 128) (i : Nat) : xs.getD i 0 < 128 := by
  rw [List.getD_eq_getElem?_getD]
  cases hx : xs[i]? with
  | none => exact (by decide)
  | some v => exact h v (List.mem_of_getElem? hx)
theorem TX.ag {σ σ' : PH} {t cap : Nat} {xs : List Nat} (h : TX σ t cap xs) (h1 : Ag σ σ' t) (h2 : Ag σ σ' (t + 1)) : TX σ' t cap xs := by
  obtain ⟨a1, a2, a3, a4, a5, a6, a7, a8⟩ := h
  exact ⟨by rw [h1.1]; exact a1, by rw [h1.2.2.1]; exact a2, by rw [h2.1]; exact a3, by rw [h1.2.1]; exact a4, a5, a6, fun i hi => by rw [h2.2.2.2.1]; exact a7 i hi, a8⟩
section CText
variable {d : Nat} {σ : PH} {K : PO → PH → Prop} {t cap : Nat} {xs : List Nat}
abbrev tP (t : Nat) : Nat → Prop := fun q => q = t ∨ q = t + 1
theorem c_Text_clear (h : TX σ t cap xs) (hk : ∀ σ', TX σ' t cap [] → Fr (tP t) σ σ' → K (.inl none) σ') : PW d M_Text_clear 0 [.ref t] [] σ K := by
  obtain ⟨a1, a2, a3, a4, a5, a6, a7, a8⟩ := h
  refine e_Text_clear_0 t ⟨a1, fun σ1 e1 => ?_⟩
  subst e1
  refine hk _ ⟨a1, a2, a3, ?_, Nat.zero_le _, a6, fun i hi => absurd hi (Nat.not_lt_zero i), fun x hx => by cases hx⟩ (Fr.pI (Or.inl rfl))
  rw [gI_pI, if_pos ⟨rfl, rfl⟩]; rfl
theorem c_Text_add {c : Nat} (h : TX σ t cap xs) (hc : c < 128) (hk : ∀ σ', TX σ' t cap (if xs.length < cap then xs ++ [c] else xs) → Fr (tP t) σ σ' → K (.inl none) σ') : PW d M_Text_add 0 [.ref t, .int (nI c)] [] σ K := by
  have h0 := h
  obtain ⟨a1, a2, a3, a4, a5, a6, a7, a8⟩ := h
  refine e_Text_add_0 t (nI c) ⟨a1, t + 1, a2, cap, a3, ?_⟩
  rw [a4]
  by_cases hlt : xs.length < cap
  · rw [if_neg (by rw [nI_le_iff (by omega) (by omega)]; omega)]
    rw [if_pos hlt] at hk
    refine ⟨in_n hlt (by omega), ch_nI (by omega), fun σ1 e1 => ⟨by rw [e1, sh_uI]; exact a1, fun σ2 e2 => ?_⟩⟩
    subst e2
    subst e1
    refine hk _ ⟨a1, a2, a3, ?_, by simp; omega, a6, fun i hi => ?_, fun x hx => ?_⟩ ((Fr.uI (Or.inr rfl)).tr (Fr.pI (Or.inl rfl)))
    · rw [gI_pI, if_pos ⟨rfl, rfl⟩, gI_uI, a4, nI_1]; simp
    · rw [eI_pI, eI_uI, ix_n (by omega)]
      by_cases hi2 : i = xs.length
      · rw [if_pos ⟨rfl, hi2⟩, hi2]; simp
      · rw [if_neg (fun e => hi2 e.2)]
        have : i < xs.length := by simp at hi; omega
        rw [a7 i this, List.getD_eq_getElem?_getD, List.getD_eq_getElem?_getD, List.getElem?_append_left this]
    · rcases List.mem_append.mp hx with hx | hx
      · exact a8 x hx
      · rw [List.mem_singleton.mp hx]; exact hc
  · rw [if_pos (by rw [nI_le_iff (by omega) (by omega)]; omega)]
    rw [if_neg hlt] at hk
    exact hk σ h0 Fr.rf
theorem c_Text_at {i : Nat} (h : TX σ t cap xs) (hi : i < 1000) (hk : K (.inl (some (.int (nI (xs.getD i 0))))) σ) : PW d M_Text_at 0 [.ref t, .int (nI i)] [] σ K := by
  obtain ⟨a1, a2, a3, a4, a5, a6, a7, a8⟩ := h
  refine e_Text_at_0 t (nI i) ?_
  rw [if_neg (nI_lt0 (by omega)), a4]
  refine ⟨a1, ?_⟩
  by_cases hlt : i < xs.length
  · rw [if_neg (by rw [nI_le_iff (by omega) (by omega)]; omega)]
    refine ⟨t + 1, a2, cap, a3, in_n (by omega) (by omega), ?_⟩
    rw [ix_n (by omega), a7 i hlt]
    exact ⟨ch_nI (by have := getD_lt a8 i; omega), hk⟩
  · rw [if_pos (by rw [nI_le_iff (by omega) (by omega)]; omega)]
    have : xs.getD i 0 = 0 := by rw [List.getD_eq_getElem?_getD, List.getElem?_eq_none (by omega)]; rfl
    rw [this] at hk
    exact ⟨ch_0, hk⟩
theorem c_Text_shortenTo {n : Nat} (h : TX σ t cap xs) (hn : n < 1000) (hk : ∀ σ', TX σ' t cap (xs.take n) → Fr (tP t) σ σ' → K (.inl none) σ') : PW (d + 1) M_Text_shortenTo 0 [.ref t, .int (nI n)] [] σ K := by
  obtain ⟨a1, a2, a3, a4, a5, a6, a7, a8⟩ := h
  refine e_Text_shortenTo_0 t (nI n) ⟨a1, fun σ1 e1 => ?_⟩
  subst e1
  have hl : (xs.take n).length = if n < xs.length then n else xs.length := by rw [List.length_take]; split <;> omega
  refine hk _ ⟨a1, a2, a3, ?_, by rw [hl]; split <;> omega, a6, fun i hi => ?_, fun x hx => a8 x (List.mem_of_mem_take hx)⟩ (Fr.pI (Or.inl rfl))
  · rw [gI_pI, if_pos ⟨rfl, rfl⟩, a4, hl]
    by_cases hlt : n < xs.length
    · rw [if_pos ((nI_lt_iff (by omega) (by omega)).mpr hlt), if_pos hlt]
    · rw [if_neg (fun q => hlt ((nI_lt_iff (by omega) (by omega)).mp q)), if_neg hlt]
  · rw [hl] at hi
    have h1 : i < xs.length := by split at hi <;> omega
    have h2 : i < n := by split at hi <;> omega
    rw [eI_pI, a7 i h1, List.getD_eq_getElem?_getD, List.getD_eq_getElem?_getD, List.getElem?_take, if_pos h2]
/-- characters added one by one, up to the limit -/
def addL (cap : Nat) (xs ys : List Nat) : List Nat := (xs ++ ys).take cap
theorem addL_nil {cap : Nat} {xs : List Nat} (h : xs.length ≤ cap) : addL cap xs [] = xs := by simp [addL, List.take_of_length_le h]
theorem addL_step {cap : Nat} {xs ys : List Nat} {c : Nat} (h : xs.length ≤ cap) : addL cap (if xs.length < cap then xs ++ [c] else xs) ys = addL cap xs (c :: ys) := by
  unfold addL
  split
  · simp
  · have : xs.length = cap := by omega
    rw [List.take_append_of_le_length (by omega), List.take_append_of_le_length (by omega)]
theorem c_Text_addFrom_loop {o cap2 : Nat} {ys : List Nat} (hot : o ≠ t ∧ o ≠ t + 1 ∧ o + 1 ≠ t) : ∀ (n i : Nat) (σ : PH) (xs : List Nat), ys.length ≤ i + n → TX σ t cap xs → TX σ o cap2 ys → i ≤ 1000 → (∀ σ', TX σ' t cap (addL cap xs (ys.drop i)) → Fr (tP t) σ σ' → K (.inl none) σ') → PW (d + 1) M_Text_addFrom 2 [.ref t, .ref o, uu, .int (nI i)] [] σ K := by
  intro n
  induction n with
  | zero =>
    intro i σ xs hn h ho hi hk
    have h0 := ho
    obtain ⟨b1, b2, b3, b4, b5, b6, b7, b8⟩ := ho
    refine e_Text_addFrom_2 t o (nI i) ⟨b1, ?_⟩
    rw [b4, if_pos (by rw [nI_le_iff (by omega) (by omega)]; omega)]
    refine hk σ ?_ Fr.rf
    rw [List.drop_eq_nil_of_le (by omega), addL_nil h.2.2.2.2.1]
    exact h
  | succ n ih =>
    intro i σ xs hn h ho hi hk
    have h0 := ho
    obtain ⟨b1, b2, b3, b4, b5, b6, b7, b8⟩ := ho
    refine e_Text_addFrom_2 t o (nI i) ⟨b1, ?_⟩
    by_cases hlt : i < ys.length
    · rw [b4, if_neg (by rw [nI_le_iff (by omega) (by omega)]; omega)]
      refine c_Text_at h0 (by omega) ⟨h.1, ?_⟩
      refine c_Text_add h (getD_lt b8 i) (fun σ1 g1 g2 => ?_)
      show PW (d + 1) M_Text_addFrom 2 [.ref t, .ref o, uu, .int (nI i + 1)] [] σ1 K
      rw [nI_1]
      refine ih (i + 1) σ1 _ (by omega) g1 (h0.ag (g2.ag (by unfold tP; omega)) (g2.ag (by unfold tP; omega))) (by omega) (fun σ2 g3 g4 => hk σ2 ?_ (g2.tr g4))
      rw [addL_step h.2.2.2.2.1] at g3
      rw [List.drop_eq_getElem_cons hlt]
      rw [List.getD_eq_getElem?_getD, List.getElem?_eq_getElem hlt] at g3
      exact g3
    · rw [b4, if_pos (by rw [nI_le_iff (by omega) (by omega)]; omega)]
      refine hk σ ?_ Fr.rf
      rw [List.drop_eq_nil_of_le (by omega), addL_nil h.2.2.2.2.1]
      exact h
theorem c_Text_addFrom {o cap2 i : Nat} {ys : List Nat} (hot : o ≠ t ∧ o ≠ t + 1 ∧ o + 1 ≠ t) (h : TX σ t cap xs) (ho : TX σ o cap2 ys) (hi : i ≤ 1000) (hk : ∀ σ', TX σ' t cap (addL cap xs (ys.drop i)) → Fr (tP t) σ σ' → K (.inl none) σ') : PW (d + 1) M_Text_addFrom 0 [.ref t, .ref o, .int (nI i), uu] [] σ K :=
  e_Text_addFrom_0 t o (nI i) (c_Text_addFrom_loop hot ys.length i σ xs (by omega) h ho hi hk)
end CText
