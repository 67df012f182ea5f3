/-! ===== words of a line ===== -/
def skB (xs : List Nat) (e : Nat) : Nat → Nat → Nat
  | 0, p => p
  | n + 1, p => if p < e ∧ xs.getD p 0 = 32 then skB xs e n (p + 1) else p
def skW (xs : List Nat) (e : Nat) : Nat → Nat → Nat
  | 0, p => p
  | n + 1, p => if p < e ∧ xs.getD p 0 ≠ 32 then skW xs e n (p + 1) else p
/-- where the next word begins, where a word ends -/
def sB (xs : List Nat) (e p : Nat) : Nat := skB xs e (e - p) p
def sW (xs : List Nat) (e p : Nat) : Nat := skW xs e (e - p) p
section Words
variable {xs : List Nat} {e p : Nat}
theorem sB_go (h : p < e) (hb : xs.getD p 0 = 32) : sB xs e p = sB xs e (p + 1) := by
  unfold sB
  obtain ⟨n, hn⟩ : ∃ n, e - p = n + 1 := ⟨e - p - 1, by omega⟩
  rw [hn, skB, if_pos ⟨h, hb⟩, show e - (p + 1) = n by omega]
theorem sB_end (h : e ≤ p) : sB xs e p = p := by
  unfold sB
  rw [show e - p = 0 by omega]; rfl
theorem sB_stop (h : xs.getD p 0 ≠ 32) : sB xs e p = p := by
  unfold sB
  cases e - p with
  | zero => rfl
  | succ n => rw [skB, if_neg (fun q => h q.2)]
theorem sW_go (h : p < e) (hb : xs.getD p 0 ≠ 32) : sW xs e p = sW xs e (p + 1) := by
  unfold sW
  obtain ⟨n, hn⟩ : ∃ n, e - p = n + 1 := ⟨e - p - 1, by omega⟩
  rw [hn, skW, if_pos ⟨h, hb⟩, show e - (p + 1) = n by omega]
theorem sW_end (h : e ≤ p) : sW xs e p = p := by
  unfold sW
  rw [show e - p = 0 by omega]; rfl
theorem sW_stop (h : xs.getD p 0 = 32) : sW xs e p = p := by
  unfold sW
  cases e - p with
  | zero => rfl
  | succ n => rw [skW, if_neg (fun q => q.2 h)]
theorem sB_ge : ∀ (m p : Nat), e ≤ p + m → p ≤ sB xs e p ∧ (p ≤ e → sB xs e p ≤ e) ∧ (sB xs e p < e → xs.getD (sB xs e p) 0 ≠ 32) := by
  intro m
  induction m with
  | zero => intro p h; rw [sB_end (by omega)]; exact ⟨Nat.le_refl _, fun q => q, fun q => absurd q (by omega)⟩
  | succ m ih =>
    intro p h
    by_cases h1 : p < e
    · by_cases h2 : xs.getD p 0 = 32
      · rw [sB_go h1 h2]
        have := ih (p + 1) (by omega)
        exact ⟨by omega, fun _ => this.2.1 (by omega), this.2.2⟩
      · rw [sB_stop h2]; exact ⟨Nat.le_refl _, fun q => q, fun _ => h2⟩
    · rw [sB_end (by omega)]; exact ⟨Nat.le_refl _, fun q => q, fun q => absurd q (by omega)⟩
theorem sW_ge : ∀ (m p : Nat), e ≤ p + m → p ≤ sW xs e p ∧ (p ≤ e → sW xs e p ≤ e) ∧ (sW xs e p < e → xs.getD (sW xs e p) 0 = 32) ∧ (∀ j, p ≤ j → j < sW xs e p → xs.getD j 0 ≠ 32) := by
  intro m
  induction m with
  | zero => intro p h; rw [sW_end (by omega)]; exact ⟨Nat.le_refl _, fun q => q, fun q => absurd q (by omega), fun j h1 h2 => absurd h2 (by omega)⟩
  | succ m ih =>
    intro p h
    by_cases h1 : p < e
    · by_cases h2 : xs.getD p 0 = 32
      · rw [sW_stop h2]; exact ⟨Nat.le_refl _, fun q => q, fun _ => h2, fun j h1 h2 => absurd h2 (by omega)⟩
      · rw [sW_go h1 h2]
        have := ih (p + 1) (by omega)
        refine ⟨by omega, fun _ => this.2.1 (by omega), this.2.2.1, fun j h3 h4 => ?_⟩
        by_cases hj : j = p
        · rw [hj]; exact h2
        · exact this.2.2.2 j (by omega) h4
    · rw [sW_end (by omega)]; exact ⟨Nat.le_refl _, fun q => q, fun q => absurd q (by omega), fun j h1 h2 => absurd h2 (by omega)⟩
theorem sB_facts (h : p ≤ e) : p ≤ sB xs e p ∧ sB xs e p ≤ e ∧ (sB xs e p < e → xs.getD (sB xs e p) 0 ≠ 32) := by
  have := @sB_ge xs e e p (by omega)
  exact ⟨this.1, this.2.1 h, this.2.2⟩
theorem sW_facts (h : p ≤ e) : p ≤ sW xs e p ∧ sW xs e p ≤ e ∧ (sW xs e p < e → xs.getD (sW xs e p) 0 = 32) := by
  have := @sW_ge xs e e p (by omega)
  exact ⟨this.1, this.2.1 h, this.2.2.1⟩
/-- there is a word from p on just when a character other than a blank is left -/
theorem word_iff (h : p ≤ e) : sB xs e p < sW xs e (sB xs e p) ↔ sB xs e p < e := by
  have h1 := @sB_facts xs e p h
  have h2 := @sW_facts xs e (sB xs e p) h1.2.1
  constructor
  · intro q; omega
  · intro q
    rw [sW_go q (h1.2.2 q)]
    have := @sW_facts xs e (sB xs e p + 1) (by omega)
    omega
end Words
/-- the words from p on: where each begins and ends -/
def wdF (xs : List Nat) (e : Nat) : Nat → Nat → List (Nat × Nat)
  | 0, _ => []
  | n + 1, p => if sB xs e p < e then (sB xs e p, sW xs e (sB xs e p)) :: wdF xs e n (sW xs e (sB xs e p)) else []
def wd (xs : List Nat) (e p : Nat) : List (Nat × Nat) := wdF xs e (e - p) p
section Words2
variable {xs : List Nat} {e p : Nat}
theorem wdF_fuel : ∀ (n m p : Nat), p ≤ e → e ≤ p + n → e ≤ p + m → wdF xs e n p = wdF xs e m p := by
  intro n
  induction n with
  | zero =>
    intro m p h0 h1 h2
    have : sB xs e p = p := sB_end (by omega)
    cases m with
    | zero => rfl
    | succ m => rw [wdF, wdF, if_neg (by omega)]
  | succ n ih =>
    intro m p h0 h1 h2
    cases m with
    | zero =>
      have : sB xs e p = p := sB_end (by omega)
      rw [wdF, wdF, if_neg (by omega)]
    | succ m =>
      rw [wdF, wdF]
      by_cases hb : sB xs e p < e
      · rw [if_pos hb, if_pos hb]
        have h3 := @sB_facts xs e p h0
        have h4 := (@word_iff xs e p h0).mpr hb
        have h5 := @sW_facts xs e (sB xs e p) h3.2.1
        rw [ih m _ h5.2.1 (by omega) (by omega)]
      · rw [if_neg hb, if_neg hb]
theorem wd_none (h0 : p ≤ e) (h : ¬ sB xs e p < e) : wd xs e p = [] := by
  unfold wd
  cases e - p with
  | zero => rfl
  | succ n => rw [wdF, if_neg h]
theorem wd_some (h0 : p ≤ e) (h : sB xs e p < e) : wd xs e p = (sB xs e p, sW xs e (sB xs e p)) :: wd xs e (sW xs e (sB xs e p)) := by
  have h3 := @sB_facts xs e p h0
  have h4 := (@word_iff xs e p h0).mpr h
  have h5 := @sW_facts xs e (sB xs e p) h3.2.1
  unfold wd
  obtain ⟨n, hn⟩ : ∃ n, e - p = n + 1 := ⟨e - p - 1, by omega⟩
  rw [hn, wdF, if_pos h]
  congr 1
  exact wdF_fuel _ _ _ h5.2.1 (by omega) (by omega)
/-- a blank before the words is passed over; a word goes to its end -/
theorem wd_blank (h0 : p < e) (h : xs.getD p 0 = 32) : wd xs e p = wd xs e (p + 1) := by
  by_cases hb : sB xs e p < e
  · rw [wd_some (p := p) (by omega) hb, wd_some (p := p + 1) (by omega) (by rw [← sB_go h0 h]; exact hb), ← sB_go h0 h]
  · rw [wd_none (by omega) hb, wd_none (by omega) (by rw [← sB_go h0 h]; exact hb)]
theorem wd_word (h0 : p < e) (h : xs.getD p 0 ≠ 32) : wd xs e p = (p, sW xs e p) :: wd xs e (sW xs e p) := by
  have := @sB_stop xs e p h
  rw [wd_some (by omega) (by omega), this]
theorem wd_len : ∀ (m p : Nat), p ≤ e → e ≤ p + m → (wd xs e p).length ≤ m := by
  intro m
  induction m with
  | zero => intro p h0 h1; rw [wd_none h0 (by rw [sB_end (by omega)]; omega)]; simp
  | succ m ih =>
    intro p h0 h1
    by_cases hb : sB xs e p < e
    · have h3 := @sB_facts xs e p h0
      have h4 := (@word_iff xs e p h0).mpr hb
      have h5 := @sW_facts xs e (sB xs e p) h3.2.1
      rw [wd_some h0 hb]
      have := ih (sW xs e (sB xs e p)) h5.2.1 (by omega)
      simp; omega
    · rw [wd_none h0 hb]; simp
end Words2
/-- the number that a word is, 0 if it is none -/
def v3 (xs : List Nat) (s : Nat) : Nat := ((xs.getD s 0 - 48) * 10 + (xs.getD (s + 1) 0 - 48)) * 10 + (xs.getD (s + 2) 0 - 48)
def numP (xs : List Nat) (p : Nat × Nat) : Nat := if p.2 = p.1 + 3 ∧ isD (xs.getD p.1 0) = true ∧ isD (xs.getD (p.1 + 1) 0) = true ∧ isD (xs.getD (p.1 + 2) 0) = true then v3 xs p.1 else 0
def numW (xs : List Nat) (W : List (Nat × Nat)) : Nat := match W with
  | [] => 0
  | p :: _ => numP xs p
/-- behind the word R, if that is the first -/
def isR1 (xs : List Nat) (p : Nat × Nat) : Bool := decide (p.2 = p.1 + 1 ∧ xs.getD p.1 0 = 82)
def afR (xs : List Nat) (W : List (Nat × Nat)) : List (Nat × Nat) := match W with
  | [] => []
  | p :: r => if isR1 xs p = true then r else p :: r
def prcP (xs : List Nat) (p : Nat × Nat) : Nat := if p.2 = p.1 + 1 ∧ 49 ≤ xs.getD p.1 0 ∧ xs.getD p.1 0 ≤ 52 then xs.getD p.1 0 - 48 else 0
def prcW (xs : List Nat) (W : List (Nat × Nat)) : Nat := match W with
  | [] => 0
  | p :: _ => prcP xs p
def isI (xs : List Nat) (p : Nat × Nat) : Bool := decide (p.2 = p.1 + 4 ∧ isL (xs.getD p.1 0) = true ∧ isL (xs.getD (p.1 + 1) 0) = true ∧ isL (xs.getD (p.1 + 2) 0) = true ∧ isL (xs.getD (p.1 + 3) 0) = true)
def indV (xs : List Nat) (p : Nat × Nat) : Nat := (((xs.getD p.1 0 - 65) * 26 + (xs.getD (p.1 + 1) 0 - 65)) * 26 + (xs.getD (p.1 + 2) 0 - 65)) * 26 + (xs.getD (p.1 + 3) 0 - 65)
/-- the words of a text's first line; those from the precedence on; the indicators' -/
def hW (xs : List Nat) : List (Nat × Nat) := wd xs (fle xs) 0
def hP3 (xs : List Nat) : List (Nat × Nat) := afR xs (hW xs).tail
def hNum (xs : List Nat) : Nat := numW xs (hW xs)
def hPrc (xs : List Nat) : Nat := prcW xs (hP3 xs)
def hI (xs : List Nat) : List (Nat × Nat) := (hP3 xs).tail
def hInd (xs : List Nat) : List Nat := (hI xs).map (indV xs)
def flt (xs : List Nat) (lg : Bool) : Nat := if hNum xs = 0 then 1 else if lg = true then 2 else if hPrc xs = 0 then 3 else if 1 ≤ (hI xs).length ∧ (hI xs).length ≤ 4 ∧ (hI xs).all (isI xs) = true then 0 else 4
theorem isD_iff {c : Nat} : isD c = true ↔ 48 ≤ c ∧ c ≤ 57 := decide_eq_true_iff
theorem isL_iff {c : Nat} : isL c = true ↔ 65 ≤ c ∧ c ≤ 90 := decide_eq_true_iff
theorem numP_le {xs : List Nat} {p : Nat × Nat} : numP xs p ≤ 999 := by
  unfold numP
  split
  · rename_i h
    simp only [isD_iff] at h
    unfold v3; omega
  · omega
theorem hNum_le {xs : List Nat} : hNum xs ≤ 999 := by
  unfold hNum numW
  split
  · omega
  · exact numP_le
theorem prcP_le {xs : List Nat} {p : Nat × Nat} : prcP xs p ≤ 4 := by
  unfold prcP; split <;> omega
theorem hPrc_le {xs : List Nat} : hPrc xs ≤ 4 := by
  unfold hPrc prcW
  split
  · omega
  · exact prcP_le
theorem indV_lt {xs : List Nat} {p : Nat × Nat} (h : isI xs p = true) : indV xs p < 456976 := by
  have h := of_decide_eq_true h
  simp only [isL_iff] at h
  unfold indV; omega
