/-! ===== the rounds of the routes come to rest ===== -/
noncomputable def cntP (P : Nat → Prop) : Nat → Nat
  | 0 => 0
  | n + 1 => cntP P n + pN (P n)
theorem cntP_le {P : Nat → Prop} : ∀ n, cntP P n ≤ n := by
  intro n
  induction n with
  | zero => exact Nat.le_refl _
  | succ n ih =>
    have := @pN_le (P n)
    rw [cntP]; omega
theorem pN_mo {P Q : Prop} (h : P → Q) : pN P ≤ pN Q := by
  by_cases hp : P
  · rw [pN_t hp, pN_t (h hp)]; exact Nat.le_refl _
  · rw [pN_f hp]; exact Nat.zero_le _
theorem cntP_mo {P Q : Nat → Prop} : ∀ n, (∀ i, i < n → P i → Q i) → cntP P n ≤ cntP Q n := by
  intro n
  induction n with
  | zero => intro _; exact Nat.le_refl _
  | succ n ih =>
    intro h
    have h1 := ih (fun i hi => h i (by omega))
    have h2 := pN_mo (h n (by omega))
    rw [cntP, cntP]; omega
theorem cntP_lt {P Q : Nat → Prop} : ∀ n, (∀ i, i < n → P i → Q i) → (∃ j, j < n ∧ Q j ∧ ¬ P j) → cntP P n < cntP Q n := by
  intro n
  induction n with
  | zero => rintro _ ⟨j, hj, _⟩; omega
  | succ n ih =>
    rintro h ⟨j, hj, hq, hp⟩
    have h2 := pN_mo (h n (by omega))
    rw [cntP, cntP]
    by_cases hjn : j = n
    · subst hjn
      have h1 := cntP_mo j (fun i hi => h i (by omega))
      rw [pN_t hq, pN_f hp]; omega
    · have h1 := ih (fun i hi => h i (by omega)) ⟨j, by omega, hq, hp⟩
      omega
section Sat
variable {R : List RO} {S : Nat → Prop}
theorem rc_mo {n m j : Nat} (h : n ≤ m) (hj : Rc R S n j) : Rc R S m j := by
  induction m with
  | zero => rw [show n = 0 by omega] at hj; exact hj
  | succ m ih =>
    by_cases hnm : n = m + 1
    · rw [hnm] at hj; exact hj
    · exact Or.inl (ih (by omega))
theorem rc_stab {k : Nat} (h : ∀ j, j < R.length → Rc R S (k + 1) j → Rc R S k j) : ∀ n j, j < R.length → Rc R S n j → Rc R S k j := by
  intro n
  induction n with
  | zero => intro j _ hj; exact rc_mo (Nat.zero_le _) hj
  | succ n ih =>
    intro j hl hj
    rcases hj with hj | ⟨i, hi, he⟩
    · exact ih j hl hj
    · exact h j hl (Or.inr ⟨i, ih i he.1 hi, he⟩)
theorem rc_cnt (hs : ∃ i, i < R.length ∧ S i) : ∀ n, (∃ k, k < n ∧ ∀ j, j < R.length → Rc R S (k + 1) j → Rc R S k j) ∨ n + 1 ≤ cntP (Rc R S n) R.length := by
  intro n
  induction n with
  | zero =>
    right
    obtain ⟨i, h1, h2⟩ := hs
    have := cntP_lt (P := fun _ => False) (Q := Rc R S 0) R.length (fun _ _ q => q.elim) ⟨i, h1, h2, id⟩
    omega
  | succ n ih =>
    rcases ih with ⟨k, h1, h2⟩ | ih
    · exact Or.inl ⟨k, by omega, h2⟩
    · by_cases hst : ∀ j, j < R.length → Rc R S (n + 1) j → Rc R S n j
      · exact Or.inl ⟨n, by omega, hst⟩
      · right
        have hex : ∃ j, j < R.length ∧ Rc R S (n + 1) j ∧ ¬ Rc R S n j := by
          apply Classical.byContradiction
          intro hne
          apply hst
          intro j h1 h2
          apply Classical.byContradiction
          intro h3
          exact hne ⟨j, h1, h2, h3⟩
        have := cntP_lt (P := Rc R S n) (Q := Rc R S (n + 1)) R.length (fun _ _ q => Or.inl q) hex
        omega
theorem rc_sat (hR : R.length ≤ 12) (hs : ∃ i, i < R.length ∧ S i) {n j : Nat} (hj : j < R.length) (h : Rc R S n j) : Rc R S 11 j := by
  rcases rc_cnt hs 12 with ⟨k, h1, h2⟩ | h1
  · exact rc_mo (show k ≤ 11 by omega) (rc_stab h2 n j hj h)
  · have := cntP_le (P := Rc R S 12) R.length
    omega
theorem rc_un {ι : Type} {T : ι → Nat → Prop} (hS : ∀ j, S j ↔ ∃ x, T x j) : ∀ n j, Rc R S n j ↔ ∃ x, Rc R (T x) n j := by
  intro n
  induction n with
  | zero => intro j; exact hS j
  | succ n ih =>
    intro j
    constructor
    · rintro (h | ⟨i, h1, h2⟩)
      · obtain ⟨x, hx⟩ := (ih j).mp h
        exact ⟨x, Or.inl hx⟩
      · obtain ⟨x, hx⟩ := (ih i).mp h1
        exact ⟨x, Or.inr ⟨i, hx, h2⟩⟩
    · rintro ⟨x, h | ⟨i, h1, h2⟩⟩
      · exact Or.inl ((ih j).mpr ⟨x, h⟩)
      · exact Or.inr ⟨i, (ih i).mpr ⟨x, h1⟩, h2⟩
/-- where the turns stand: turn t, row k, member m; X: the rows seen, b: hit -/
def TI (R : List RO) (S : Nat → Prop) (Hit : Nat → Prop) (B0 G : Prop) (t k m : Nat) (X : Nat → Bool) (b : Bool) : Prop := (∀ j, X j = true → j < R.length ∧ Rc R S 11 j) ∧ (b = true → G) ∧ (B0 → b = true) ∧ (∀ j, j < R.length → Rc R S t j → X j = true) ∧ (∀ i, i < k → i < R.length → Rc R S t i → ∀ x ∈ (R.getD i r0).2.2.2, (bj R x < R.length → X (bj R x) = true) ∧ (Hit x → b = true)) ∧ (Rc R S t k → ∀ m', m' < m → m' < (R.getD k r0).2.2.2.length → (bj R ((R.getD k r0).2.2.2.getD m' 0) < R.length → X (bj R ((R.getD k r0).2.2.2.getD m' 0)) = true) ∧ (Hit ((R.getD k r0).2.2.2.getD m' 0) → b = true)) ∧ (∀ t', t' < t → ∀ i, i < R.length → Rc R S t' i → ∀ x ∈ (R.getD i r0).2.2.2, Hit x → b = true)
variable {Hit : Nat → Prop} {B0 G : Prop} {t k m : Nat} {X X' : Nat → Bool} {b b' : Bool}
theorem TI.step (hR : R.length ≤ 12) (hs : ∃ i, i < R.length ∧ S i) (hG : ∀ i x, i < R.length → Rc R S 11 i → x ∈ (R.getD i r0).2.2.2 → Hit x → G) (h : TI R S Hit B0 G t k m X b) (hX : X k = true) (hm : m < (R.getD k r0).2.2.2.length) (hX' : ∀ j, X' j = true ↔ X j = true ∨ (j = bj R ((R.getD k r0).2.2.2.getD m 0) ∧ j < R.length)) (hb' : b' = true ↔ b = true ∨ Hit ((R.getD k r0).2.2.2.getD m 0)) : TI R S Hit B0 G t k (m + 1) X' b' := by
  obtain ⟨h1, h2, h3, h4, h5, h6, h7⟩ := h
  obtain ⟨hk1, hk2⟩ := h1 k hX
  refine ⟨fun j hj => ?_, fun q => ?_, fun q => hb'.mpr (Or.inl (h3 q)), fun j q1 q2 => (hX' j).mpr (Or.inl (h4 j q1 q2)), fun i q1 q2 q3 x q4 => ⟨fun z => (hX' _).mpr (Or.inl ((h5 i q1 q2 q3 x q4).1 z)), fun z => hb'.mpr (Or.inl ((h5 i q1 q2 q3 x q4).2 z))⟩, fun q1 m' q2 q3 => ?_, fun t' q1 i q2 q3 x q4 q5 => hb'.mpr (Or.inl (h7 t' q1 i q2 q3 x q4 q5))⟩
  · rcases (hX' j).mp hj with q | ⟨q1, q2⟩
    · exact h1 j q
    · refine ⟨q2, rc_sat hR hs (n := 12) q2 (Or.inr ⟨k, hk2, hk1, _, getD_mem hm, q1.symm⟩)⟩
  · rcases hb'.mp q with q | q
    · exact h2 q
    · exact hG k _ hk1 hk2 (getD_mem hm) q
  · by_cases hmm : m' = m
    · subst hmm
      exact ⟨fun z => (hX' _).mpr (Or.inr ⟨rfl, z⟩), fun z => hb'.mpr (Or.inr z)⟩
    · have := h6 q1 m' (by omega) q3
      exact ⟨fun z => (hX' _).mpr (Or.inl (this.1 z)), fun z => hb'.mpr (Or.inl (this.2 z))⟩
theorem TI.row (h : TI R S Hit B0 G t k m X b) (hk : k < R.length) (hm : X k = false ∨ (R.getD k r0).2.2.2.length ≤ m) : TI R S Hit B0 G t (k + 1) 0 X b := by
  obtain ⟨h1, h2, h3, h4, h5, h6, h7⟩ := h
  refine ⟨h1, h2, h3, h4, fun i q1 q2 q3 x q4 => ?_, fun _ m' q2 _ => absurd q2 (Nat.not_lt_zero _), h7⟩
  by_cases hik : i = k
  · subst hik
    rcases hm with hm | hm
    · rw [h4 i q2 q3] at hm; exact absurd hm (by decide)
    · obtain ⟨m', hm', e⟩ := List.mem_iff_getElem.mp q4
      have := h6 q3 m' (by omega) hm'
      rw [List.getD_eq_getElem?_getD, List.getElem?_eq_getElem hm', e] at this
      exact this
  · exact h5 i (by omega) q2 q3 x q4
theorem TI.turn (h : TI R S Hit B0 G t R.length 0 X b) : TI R S Hit B0 G (t + 1) 0 0 X b := by
  obtain ⟨h1, h2, h3, h4, h5, h6, h7⟩ := h
  refine ⟨h1, h2, h3, fun j q1 q2 => ?_, fun i q1 => absurd q1 (Nat.not_lt_zero _), fun _ m' q2 _ => absurd q2 (Nat.not_lt_zero _), fun t' q1 i q2 q3 x q4 q5 => ?_⟩
  · rcases q2 with q2 | ⟨i, q2, q3, x, q4, q5⟩
    · exact h4 j q1 q2
    · have := (h5 i q3 q3 q2 x q4).1
      rw [q5] at this
      exact this q1
  · by_cases htt : t' = t
    · subst htt; exact (h5 i q2 q2 q3 x q4).2 q5
    · exact h7 t' (by omega) i q2 q3 x q4 q5
theorem TI.fin (hR : R.length ≤ 12) (hs : ∃ i, i < R.length ∧ S i) (h : TI R S Hit B0 G 12 0 0 X b) (hG : G → B0 ∨ ∃ i, i < R.length ∧ Rc R S 11 i ∧ ∃ x ∈ (R.getD i r0).2.2.2, Hit x) : (∀ j, X j = true ↔ j < R.length ∧ Rc R S 12 j) ∧ (b = true ↔ G) := by
  obtain ⟨h1, h2, h3, h4, h5, h6, h7⟩ := h
  refine ⟨fun j => ⟨fun q => ⟨(h1 j q).1, rc_mo (show 11 ≤ 12 by omega) (h1 j q).2⟩, fun q => h4 j q.1 q.2⟩, h2, fun q => ?_⟩
  rcases hG q with q | ⟨i, q1, q2, x, q3, q4⟩
  · exact h3 q
  · exact h7 11 (by omega) i q1 q2 x q3 q4
theorem TI.start {f : Nat} (hf : bj R f < R.length) (hX : ∀ j, X j = true ↔ j = bj R f) (hb : b = true → G) (hb0 : B0 → b = true) : TI R (Sd R [f]) Hit B0 G 0 0 0 X b := by
  refine ⟨fun j q => ?_, hb, hb0, fun j q1 ⟨k, q2, q3⟩ => ?_, fun i q1 => absurd q1 (Nat.not_lt_zero _), fun _ m' q2 _ => absurd q2 (Nat.not_lt_zero _), fun t' q1 => absurd q1 (Nat.not_lt_zero _)⟩
  · have := (hX j).mp q
    subst this
    exact ⟨hf, rc_mo (Nat.zero_le _) ⟨f, List.mem_singleton.mpr rfl, rfl⟩⟩
  · rw [List.mem_singleton.mp q2] at q3
    exact (hX j).mpr q3.symm
theorem sd_row {f : Nat} (hf : bj R f < R.length) : ∃ i, i < R.length ∧ Sd R [f] i := ⟨_, hf, f, List.mem_singleton.mpr rfl, rfl⟩
theorem bj_lt {f : Nat} (hR : R.length ≤ 12) : bj R f < R.length ↔ rix R f < R.length := by
  unfold bj; split <;> omega
theorem bj_12 {f : Nat} (hR : R.length ≤ 12) : bj R f = 12 ↔ ¬ rix R f < R.length := by
  unfold bj; split <;> omega
/-- the sink is reached by a member -/
theorem rc_sink {f : Nat} (hR : R.length ≤ 12) (hf : bj R f < R.length) : ∀ n, Rc R (Sd R [f]) n 12 → ∃ i, i < R.length ∧ Rc R (Sd R [f]) 11 i ∧ ∃ x ∈ (R.getD i r0).2.2.2, bj R x = 12 := by
  intro n
  induction n with
  | zero =>
    rintro ⟨k, q1, q2⟩
    rw [List.mem_singleton.mp q1] at q2
    omega
  | succ n ih =>
    rintro (h | ⟨i, h1, h2, x, h3, h4⟩)
    · exact ih h
    · exact ⟨i, h2, rc_sat hR (sd_row hf) h2 h1, x, h3, h4⟩
end Sat
