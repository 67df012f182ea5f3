/-! ===== contracts of Text, further ===== -/
theorem i2c_n {m : Nat} (h : m < 65536) : ((nI m).toUInt32 % 65536).toInt32 = nI m := by rw [pk_char, pk_tn (by omega), Nat.mod_eq_of_lt h]
theorem div_n {a d : Nat} (ha : a < 2147483648) (h0 : 0 < d) (hd : d < 2147483648) : nI a / nI d = nI (a / d) := pk_div (by omega) h0 (by omega)
theorem rem_n {a d : Nat} (ha : a < 2147483648) (h0 : 0 < d) (hd : d < 2147483648) : nI a - nI a / nI d * nI d = nI (a % d) := pk_rem (by omega) h0 (by omega)
/-- where the first line ends -/
def fle (xs : List Nat) : Nat := (xs.takeWhile (fun x => x ≠ 10)).length
theorem fle_spec : ∀ xs : List Nat, fle xs ≤ xs.length ∧ (∀ j, j < fle xs → xs.getD j 0 ≠ 10) ∧ (fle xs < xs.length → xs.getD (fle xs) 0 = 10) := by
  intro xs
  induction xs with
  | nil => exact ⟨Nat.le_refl _, fun j hj => absurd hj (Nat.not_lt_zero j), fun h => absurd h (Nat.lt_irrefl _)⟩
  | cons x xs ih =>
    by_cases hx : x = 10
    · have e : fle (x :: xs) = 0 := by simp [fle, hx]
      rw [e]
      exact ⟨Nat.zero_le _, fun j hj => absurd hj (Nat.not_lt_zero j), fun _ => by simpa using hx⟩
    · have e : fle (x :: xs) = fle xs + 1 := by simp [fle, hx]
      rw [e]
      refine ⟨by simp; exact ih.1, fun j hj => ?_, fun h => ?_⟩
      · cases j with
        | zero => simpa using hx
        | succ j => simpa using ih.2.1 j (by omega)
      · simpa using ih.2.2 (by simp at h; omega)
section CText2
variable {d : Nat} {σ : PH} {K : PO → PH → Prop} {t cap : Nat} {xs : List Nat}
theorem c_Text_firstLineEnd_loop (h : TX σ t cap xs) (hk : K (.inl (some (.int (nI (fle xs))))) σ) : ∀ (n i : Nat), fle xs ≤ i + n → i ≤ fle xs → PW d M_Text_firstLineEnd 2 [.ref t, .int (nI i)] [] σ K := by
  have h0 := h
  obtain ⟨a1, a2, a3, a4, a5, a6, a7, a8⟩ := h
  obtain ⟨s1, s2, s3⟩ := fle_spec xs
  have base : ∀ i, i = fle xs → PW d M_Text_firstLineEnd 2 [.ref t, .int (nI i)] [] σ K := by
    intro i hi
    refine e_Text_firstLineEnd_2 t (nI i) ⟨a1, ?_⟩
    rw [a4]
    by_cases hlt : i < xs.length
    · rw [if_neg (by rw [nI_le_iff (by omega) (by omega)]; omega)]
      refine ⟨t + 1, a2, cap, a3, in_n (by omega) (by omega), ?_⟩
      rw [ix_n (by omega), a7 i hlt, if_pos (by rw [hi, s3 (by omega)]; rfl), hi]
      exact hk
    · rw [if_pos (by rw [nI_le_iff (by omega) (by omega)]; omega), show xs.length = fle xs by omega]
      exact hk
  intro n
  induction n with
  | zero => intro i h1 h2; exact base i (by omega)
  | succ n ih =>
    intro i h1 h2
    by_cases he : i = fle xs
    · exact base i he
    · have hlt : i < xs.length := by omega
      refine e_Text_firstLineEnd_2 t (nI i) ⟨a1, ?_⟩
      rw [a4, if_neg (by rw [nI_le_iff (by omega) (by omega)]; omega)]
      refine ⟨t + 1, a2, cap, a3, in_n (by omega) (by omega), ?_⟩
      have hne : ¬ nI (xs.getD i 0) = 10 := fun q => s2 i (by omega) ((nI_eq_iff (b := 10) (by have := getD_lt a8 i; omega) (by decide)).mp q)
      rw [ix_n (by omega), a7 i hlt, if_neg hne, nI_1]
      exact ih (i + 1) (by omega) (by omega)
theorem c_Text_firstLineEnd (h : TX σ t cap xs) (hk : K (.inl (some (.int (nI (fle xs))))) σ) : PW d M_Text_firstLineEnd 0 [.ref t, uu] [] σ K := by
  refine e_Text_firstLineEnd_0 t ?_
  exact c_Text_firstLineEnd_loop h hk (fle xs) 0 (by omega) (Nat.zero_le _)
theorem addL_len {xs ys : List Nat} (h : xs.length ≤ cap) : (addL cap xs ys).length ≤ cap := by simp [addL]; omega
theorem addL_addL {xs ys zs : List Nat} : addL cap (addL cap xs ys) zs = addL cap xs (ys ++ zs) := by
  unfold addL
  apply List.ext_getElem?
  intro i
  by_cases hi : i < cap
  · rw [List.getElem?_take_of_lt hi, List.getElem?_take_of_lt hi]
    by_cases h1 : i < (xs ++ ys).length
    · rw [List.getElem?_append_left (by rw [List.length_take]; omega), List.getElem?_take_of_lt hi, ← List.append_assoc, List.getElem?_append_left h1]
    · rw [List.take_of_length_le (by omega), List.append_assoc]
  · rw [List.getElem?_eq_none (by rw [List.length_take]; omega), List.getElem?_eq_none (by rw [List.length_take]; omega)]
theorem addL_one {xs : List Nat} {c : Nat} (h : xs.length ≤ cap) : (if xs.length < cap then xs ++ [c] else xs) = addL cap xs [c] := by
  have := addL_step (cap := cap) (xs := xs) (ys := []) (c := c) h
  rw [addL_nil (by split; · simp; omega
                   · exact h)] at this
  exact this
theorem c_Text_add1 {c : Nat} (h : TX σ t cap xs) (hc : c < 128) (hk : ∀ σ', TX σ' t cap (addL cap xs [c]) → Fr (tP t) σ σ' → K (.inl none) σ') : PW d M_Text_add 0 [.ref t, .int (nI c)] [] σ K := by
  refine c_Text_add h hc (fun σ' h1 h2 => hk σ' ?_ h2)
  rw [addL_one h.2.2.2.2.1] at h1
  exact h1
/-- a number's three digits -/
def dig3 (n : Nat) : List Nat := [48 + n / 100 % 10, 48 + n / 10 % 10, 48 + n % 10]
theorem c_Text_addNumber {n : Nat} (h : TX σ t cap xs) (hn : n < 100000) (hk : ∀ σ', TX σ' t cap (addL cap xs (dig3 n)) → Fr (tP t) σ σ' → K (.inl none) σ') : PW (d + 1) M_Text_addNumber 0 [.ref t, .int (nI n)] [] σ K := by
  refine e_Text_addNumber_0 t (nI n) ⟨h.1, ?_⟩
  have e1 : ((48 + ((nI n / 100) - (nI n / 100) / 10 * 10)).toUInt32 % 65536).toInt32 = nI (48 + n / 100 % 10) := by
    rw [show (100 : Int32) = nI 100 from rfl, show (10 : Int32) = nI 10 from rfl, div_n (by omega) (by decide) (by decide), rem_n (by omega) (by decide) (by decide), show (48 : Int32) = nI 48 from rfl, nI_add, i2c_n (by omega)]
  have e2 : ((48 + ((nI n / 10) - (nI n / 10) / 10 * 10)).toUInt32 % 65536).toInt32 = nI (48 + n / 10 % 10) := by
    rw [show (10 : Int32) = nI 10 from rfl, div_n (by omega) (by decide) (by decide), rem_n (by omega) (by decide) (by decide), show (48 : Int32) = nI 48 from rfl, nI_add, i2c_n (by omega)]
  have e3 : ((48 + (nI n - nI n / 10 * 10)).toUInt32 % 65536).toInt32 = nI (48 + n % 10) := by
    rw [show (10 : Int32) = nI 10 from rfl, rem_n (by omega) (by decide) (by decide), show (48 : Int32) = nI 48 from rfl, nI_add, i2c_n (by omega)]
  rw [e1, e2, e3]
  refine c_Text_add1 h (by omega) (fun σ1 g1 f1 => ⟨g1.1, ?_⟩)
  refine c_Text_add1 g1 (by omega) (fun σ2 g2 f2 => ⟨g2.1, ?_⟩)
  refine c_Text_add1 g2 (by omega) (fun σ3 g3 f3 => ?_)
  refine hk σ3 ?_ ((f1.tr f2).tr f3)
  rw [addL_addL, addL_addL] at g3
  exact g3
/-- an indicator's four letters -/
def let4 (n : Nat) : List Nat := [65 + n / 17576 % 26, 65 + n / 676 % 26, 65 + n / 26 % 26, 65 + n % 26]
theorem c_Text_addIndicator {n : Nat} (h : TX σ t cap xs) (hn : n < 456976) (hk : ∀ σ', TX σ' t cap (addL cap xs (let4 n)) → Fr (tP t) σ σ' → K (.inl none) σ') : PW (d + 1) M_Text_addIndicator 0 [.ref t, .int (nI n), uu, uu] [] σ K := by
  refine e_Text_addIndicator_0 t (nI n) ?_
  have e : ∀ u : Nat, 0 < u → u < 2147483648 → ((65 + ((nI n / nI u) - (nI n / nI u) / 26 * 26)).toUInt32 % 65536).toInt32 = nI (65 + n / u % 26) := by
    intro u h0 hu
    have : n / u ≤ n := Nat.div_le_self ..
    rw [show (26 : Int32) = nI 26 from rfl, div_n (by omega) h0 hu, rem_n (by omega) (by decide) (by decide), show (65 : Int32) = nI 65 from rfl, nI_add, i2c_n (by omega)]
  refine e_Text_addIndicator_6 t (nI n) (nI 17576) 0 ?_
  rw [if_neg (by decide), e 17576 (by decide) (by decide)]
  refine ⟨by decide, h.1, c_Text_add1 h (by omega) (fun σ1 g1 f1 => ?_)⟩
  refine e_Text_addIndicator_6 t (nI n) (nI 676) 1 ?_
  rw [if_neg (by decide), e 676 (by decide) (by decide)]
  refine ⟨by decide, g1.1, c_Text_add1 g1 (by omega) (fun σ2 g2 f2 => ?_)⟩
  refine e_Text_addIndicator_6 t (nI n) (nI 26) 2 ?_
  rw [if_neg (by decide), e 26 (by decide) (by decide)]
  refine ⟨by decide, g2.1, c_Text_add1 g2 (by omega) (fun σ3 g3 f3 => ?_)⟩
  refine e_Text_addIndicator_6 t (nI n) (nI 1) 3 ?_
  rw [if_neg (by decide), e 1 (by decide) (by decide)]
  refine ⟨by decide, g3.1, c_Text_add1 g3 (by omega) (fun σ4 g4 f4 => ?_)⟩
  refine e_Text_addIndicator_6 t (nI n) (nI 1) 4 ?_
  rw [if_pos (by decide)]
  refine hk σ4 ?_ (((f1.tr f2).tr f3).tr f4)
  rw [addL_addL, addL_addL, addL_addL, Nat.div_one] at g4
  exact g4
end CText2
