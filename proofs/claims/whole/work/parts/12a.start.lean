/-! ===== from the pure walk of the law to the claim ===== -/
/-- what the pure heap is at the law's entry: the script at b, the text constant, nothing else -/
def LawIn (σ : PH) (b L : Nat) (xs : Nat → Int32) : Prop := cc σ = 0 ∧ cs σ = 0 ∧ sh σ b = (10, L) ∧ L ≤ 2048 ∧ (∀ j, j < L → eI σ b j = xs j) ∧ b < bs σ
/-- THE PURE CLAIM: from there the law comes to its end with 1 -/
def LawPure : Prop := ∀ (σ : PH) (b L : Nat) (xs : Nat → Int32), LawIn σ b L xs → PW 13 M_Law_law 0 [.ref b, uu, uu, uu, uu, uu, uu] [] σ (fun o _ => o = .inl (some (.int 1)))
def strT : Term := .string "RelayDesk$Signs" 9
theorem txt_elems : ∀ j, j < 21 → Cond.eq (.elem (.field strT "java/lang/String" "value" "[B") (.int (Int32.ofNat j))) (.int (figB j)) ∈ flatC (Jvm.Cond.and given_1 narrow_1) := by decide +kernel
theorem txt_len {b : Nat} {s : State} (hn : (Jvm.Cond.and given_1 narrow_1).before #[Value.ref b] s = true) : (Term.length (.field strT "java/lang/String" "value" "[B")).eval #[Value.ref b] s none [] s = some (.int 21) := va_eqt (flat_of_before _ hn _ (by decide +kernel))
theorem txt_start {b : Nat} {s : State} (hn : (Jvm.Cond.and given_1 narrow_1).before #[Value.ref b] s = true) : ∃ (a v : Nat) (cv : Cell), strT.eval #[] s none [] s = some (.ref a) ∧ SC s s.heap a (.ref v) ∧ s.heap[v]? = some cv ∧ s.isArrayOf cv .byte ∧ cv.vm ≠ .unknown ∧ cv.slots.size = 21 ∧ (∀ j, j < 21 → cv.slots[j]? = some (.int (figB j))) ∧ a ≠ v := by
  have hf := flat_of_before _ hn
  have hco := va_eqt (hf (Cond.eq (.field strT "java/lang/String" "coder" "B") (.int 0)) (by decide +kernel))
  obtain ⟨t, ht, cell, q1, q2, q3, q4, q5, q6, -⟩ := va_Tof (A := fun _ => False) (N := 21) (f := fun j => .int (figB j)) (by decide) (hf (Cond.arrayOf (.field strT "java/lang/String" "value" "[B") .byte) (by decide +kernel)) (txt_len hn) (fun j hj => va_eqt (hf _ (txt_elems j hj))) (fun _ _ h => h)
  obtain ⟨a, c, cA, kA, p1, p2, p3, p4, p5, p6, -⟩ := Cond.exactly_spec (args := #[Value.ref b]) (first := s) (o := none) (s := s) (idx := []) (t := strT) (cls := "java/lang/String") (hf _ (by decide +kernel))
  have hsz : cell.slots.size = 21 := by
    have hl := txt_len hn
    simp only [Term.eval, Option.bind_eq_bind] at hl ht
    rw [ht] at hl
    simp only [Option.bind_some] at hl
    obtain ⟨k9, hk9, comp9, hkind9⟩ := q2.2
    have hat : s.arrayAt? t = some cell := by
      unfold State.arrayAt?
      have hst : cell.vm.isStatics = false := by
        cases hv : cell.vm <;> first | rfl | exact absurd hv (q2.1 _)
      simp [q1, hk9, q3, hst, hkind9]
    rw [hat] at hl
    simp only [Option.bind_some] at hl
    by_cases hlt : cell.slots.size < 2 ^ 31
    · rw [if_pos hlt] at hl
      have e1 : cell.slots.size.toInt32 = 21 := by simpa using hl
      have e2 : Int32.ofNat cell.slots.size = Int32.ofNat 21 := e1
      exact (nI_eq hlt (by decide)).mp e2
    · rw [if_neg hlt] at hl
      simp at hl
  obtain ⟨cf1, k1, i1, f1, cl1, g1, g2, g3, g4, g5, -⟩ := vk_OFof (A := fun _ => False) p1 hco (fun _ _ h => h)
  obtain ⟨cf2, k2, i2, f2, cl2, r1, r2, r3, r4, r5, -⟩ := vk_OFof (A := fun _ => False) p1 ht (fun _ _ h => h)
  cases p3.symm.trans g3
  cases p3.symm.trans r3
  refine ⟨a, t, cell, p1, ⟨cA, p3, p5, g4, by rw [p6]; exact p2, ⟨cf1, k1, i1, f1, g1, g2, g5⟩, cf2, k2, i2, f2, r1, r2, r5⟩, q1, q2, q3, hsz, q6, fun hat => ?_⟩
  subst hat
  cases p3.symm.trans q1
  have hlt : f2.slot < 21 := by rw [← hsz]; exact (Array.getElem?_eq_some_iff.mp r5).1
  have := (q6 f2.slot hlt).symm.trans r5
  cases this
