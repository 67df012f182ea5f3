/-! ===== the class's state in the heap ===== -/
def mA (B m : Nat) : Nat := B + 120 + 5 * (m - 1)
def cA (B c : Nat) : Nat := B + 32 + 11 * c
def OUr (σ : PH) (a B c : Nat) (M : List MS) (s : CS) : Prop := ∃ (n : Nat) (ag : Bool) (tp : List Nat) (pos : Nat) (fg : Bool), OU σ a c (if (sSd s).1 = 0 then none else some (mA B (sSd s).1)) n ag (sLn s) ((sAsk s).map (fun p => mA B p.1)) ((sSent s).reverse.map (fun p => mA B p.1)) tp pos fg ∧ ((sSd s).1 ≠ 0 → n = (sSd s).2.1 ∧ ag = (sSd s).2.2 ∧ tp = tape (msg M (sSd s).1) (sSd s).2.1 (sSd s).2.2 ∧ (pos, fg) = run tp (sOut s))
/-- an intake; where the gathered begins with the mark 200 its text has been cut and waits for 'begin' -/
def INw (σ : PH) (a : Nat) (g : List Nat) (fg : Bool) : Prop := sh σ a = (1, 2) ∧ gR σ 128 a = some (a + 1) ∧ ∃ xs, TX σ (a + 1) 60 xs ∧ (g.head? = some 200 → xs = g.tail) ∧ (g.head? ≠ some 200 → IN σ a g fg)
theorem INw.ag {σ σ' : PH} {a : Nat} {g : List Nat} {fg : Bool} (h : INw σ a g fg) (h1 : Ag σ σ' a) (h2 : Ag σ σ' (a + 1)) (h3 : Ag σ σ' (a + 1 + 1)) : INw σ' a g fg := by
  obtain ⟨a1, a2, xs, a3, a4, a5⟩ := h
  exact ⟨by rw [h1.1]; exact a1, by rw [h1.2.2.1]; exact a2, xs, a3.ag h2 h3, a4, fun q => (a5 q).ag h1 h2 h3⟩
theorem IN.w {σ : PH} {a : Nat} {g : List Nat} {fg : Bool} (h : IN σ a g fg) (hg : ∀ x ∈ g, x < 128) : INw σ a g fg := by
  refine ⟨h.1, h.2.1, _, h.2.2.1, fun q => ?_, fun _ => h⟩
  exact absurd (hg 200 (List.mem_of_head? q)) (by decide)
theorem INw.out {σ : PH} {a : Nat} {g : List Nat} {fg : Bool} (h : INw σ a g fg) (hg : ∀ x ∈ g, x < 128) : IN σ a g fg := by
  obtain ⟨-, -, xs, -, -, h2⟩ := h
  exact h2 (fun q => absurd (hg 200 (List.mem_of_head? q)) (by decide))
def CHr (σ : PH) (a B c : Nat) (M : List MS) (s : CS) : Prop := sh σ a = (1, 1) ∧ gI σ 64 a = nI (sOp s).toNat ∧ gR σ 65 a = some (a + 1) ∧ gR σ 66 a = some (a + 4) ∧ gR σ 67 a = some (a + 6) ∧ INw σ (a + 1) (sG s) (sF s) ∧ NU σ (a + 4) (sLa s) (sMi s) ∧ OUr σ (a + 6) B c M s
abbrev hP (a : Nat) : Nat → Prop := fun q => a ≤ q ∧ q < a + 11
def DK (σ : PH) (B nM nC : Nat) : Prop := sh σ B = (1, 0) ∧ gR σ 0 B = some (B + 1) ∧ gR σ 1 B = some (B + 2) ∧ gR σ 2 B = some (B + 3) ∧ gR σ 3 B = some (B + 4) ∧ gR σ 4 B = some (B + 30) ∧ gI σ 5 B = nI nM ∧ gI σ 6 B = nI nC ∧ sh σ (B + 1) = (6, 8) ∧ (∀ c, c < 8 → eR σ (B + 1) c = some (cA B c)) ∧ sh σ (B + 2) = (7, 10) ∧ (∀ i, i < 10 → eR σ (B + 2) i = some (mA B (i + 1))) ∧ sh σ (B + 3) = (8, 6) ∧ (∀ i, i < 6 → eR σ (B + 3) i = some (B + 170 + 3 * i))
def CR (σ : PH) (B : Nat) (S : SP) : Prop := DK σ B S.2.1.length S.2.2.1.length ∧ RS σ (B + 4) S.2.2.2 ∧ HD σ (B + 30) ∧ (∀ c, c < 8 → CHr σ (cA B c) B c S.2.1 (S.1 c)) ∧ (∀ m, 1 ≤ m → m ≤ 10 → ME σ (mA B m) (msg S.2.1 m)) ∧ (∀ i, i < 6 → CA σ (B + 170 + 3 * i) (S.2.2.1.getD i (0, [])))
section Desk
variable {d : Nat} {σ σ' : PH} {K : PO → PH → Prop} {B : Nat} {S : SP} {M : List MS}
theorem OUr.ag {a c : Nat} {s : CS} (h : OUr σ a B c M s) (h1 : ∀ q, a ≤ q → q < a + 5 → Ag σ σ' q) : OUr σ' a B c M s := by
  obtain ⟨n, ag, tp, pos, fg, h2, h3⟩ := h
  exact ⟨n, ag, tp, pos, fg, h2.kept h1, h3⟩
theorem CHr.ag {a c : Nat} {s : CS} (h : CHr σ a B c M s) (h1 : ∀ q, hP a q → Ag σ σ' q) : CHr σ' a B c M s := by
  obtain ⟨a1, a2, a3, a4, a5, a6, a7, a8⟩ := h
  have g0 := h1 a (by unfold hP; omega)
  exact ⟨by rw [g0.1]; exact a1, by rw [g0.2.1]; exact a2, by rw [g0.2.2.1]; exact a3, by rw [g0.2.2.1]; exact a4, by rw [g0.2.2.1]; exact a5, a6.ag (h1 _ (by unfold hP; omega)) (h1 _ (by unfold hP; omega)) (h1 _ (by unfold hP; omega)), a7.ag (h1 _ (by unfold hP; omega)) (h1 _ (by unfold hP; omega)), a8.ag (fun q q1 q2 => h1 q (by unfold hP; omega))⟩
/-- the same messages but for their fates -/
def SmT (M M' : List MS) : Prop := ∀ m, 1 ≤ m → m ≤ M.length → (msg M' m).1 = (msg M m).1 ∧ (msg M' m).2.1 = (msg M m).2.1 ∧ (msg M' m).2.2.1 = (msg M m).2.2.1
theorem tape_cg {m m' : MS} {n : Nat} {ag : Bool} (h : m'.1 = m.1 ∧ m'.2.1 = m.2.1 ∧ m'.2.2.1 = m.2.2.1) : tape m' n ag = tape m n ag := by
  unfold tape tHead
  rw [h.1, h.2.1, h.2.2]
theorem CHr.sm {a c : Nat} {s : CS} {M' : List MS} (h : CHr σ a B c M s) (hs : SmT M M') (hm : (sSd s).1 ≤ M.length) : CHr σ a B c M' s := by
  obtain ⟨a1, a2, a3, a4, a5, a6, a7, n, ag, tp, pos, fg, h2, h3⟩ := h
  refine ⟨a1, a2, a3, a4, a5, a6, a7, n, ag, tp, pos, fg, h2, fun q => ?_⟩
  obtain ⟨q1, q2, q3, q4⟩ := h3 q
  exact ⟨q1, q2, by rw [tape_cg (hs _ (by omega) hm)]; exact q3, q4⟩
theorem DK.ag {nM nC : Nat} (h : DK σ B nM nC) (h1 : ∀ q, B ≤ q → q < B + 4 → Ag σ σ' q) : DK σ' B nM nC := by
  obtain ⟨a1, a2, a3, a4, a5, a6, a7, a8, a9, a10, a11, a12, a13, a14⟩ := h
  have g0 := h1 B (by omega) (by omega)
  have g1 := h1 (B + 1) (by omega) (by omega)
  have g2 := h1 (B + 2) (by omega) (by omega)
  have g3 := h1 (B + 3) (by omega) (by omega)
  exact ⟨by rw [g0.1]; exact a1, by rw [g0.2.2.1]; exact a2, by rw [g0.2.2.1]; exact a3, by rw [g0.2.2.1]; exact a4, by rw [g0.2.2.1]; exact a5, by rw [g0.2.2.1]; exact a6, by rw [g0.2.1]; exact a7, by rw [g0.2.1]; exact a8, by rw [g1.1]; exact a9, fun i hi => by rw [g1.2.2.2.2.1]; exact a10 i hi, by rw [g2.1]; exact a11, fun i hi => by rw [g2.2.2.2.2.1]; exact a12 i hi, by rw [g3.1]; exact a13, fun i hi => by rw [g3.2.2.2.2.1]; exact a14 i hi⟩
theorem CR.ag (h : CR σ B S) (h1 : ∀ q, B ≤ q → q < B + 188 → Ag σ σ' q) : CR σ' B S := by
  obtain ⟨a1, a2, a3, a4, a5, a6⟩ := h
  exact ⟨a1.ag (fun q q1 q2 => h1 q q1 (by omega)), a2.ag (fun q q1 q2 => h1 q (by omega) (by omega)), a3.ag (h1 _ (by omega) (by omega)) (h1 _ (by omega) (by omega)), fun c hc => (a4 c hc).ag (fun q hq => h1 q (by unfold hP cA at hq; omega) (by unfold hP cA at hq; omega)), fun m m1 m2 => (a5 m m1 m2).ag (fun q q1 q2 => h1 q (by unfold mA at q1; omega) (by unfold mA at q2; omega)), fun i hi => (a6 i hi).ag (fun q q1 q2 => h1 q (by omega) (by omega))⟩
/-- only a channel's cells have changed -/
theorem CR.chan {c : Nat} {s : CS} (h : CR σ B S) (hc : c < 8) (hf : Fr (hP (cA B c)) σ σ') (hs : CHr σ' (cA B c) B c S.2.1 s) : CR σ' B (uC S c s) := by
  obtain ⟨a1, a2, a3, a4, a5, a6⟩ := h
  refine ⟨a1.ag (fun q q1 q2 => hf.ag (by unfold hP cA; omega)), a2.ag (fun q q1 q2 => hf.ag (by unfold hP cA; omega)), a3.ag (hf.ag (by unfold hP cA; omega)) (hf.ag (by unfold hP cA; omega)), fun x hx => ?_, fun m m1 m2 => (a5 m m1 m2).ag (fun q q1 q2 => hf.ag (by unfold mA at q1 q2; unfold hP cA; omega)), fun i hi => (a6 i hi).ag (fun q q1 q2 => hf.ag (by unfold hP cA; omega))⟩
  show CHr σ' (cA B x) B x S.2.1 (if x = c then s else S.1 x)
  by_cases hxc : x = c
  · rw [if_pos hxc, hxc]; exact hs
  · rw [if_neg hxc]
    exact (a4 x hx).ag (fun q hq => hf.ag (by unfold hP cA at *; omega))
/-- only the header's cells have changed -/
theorem CR.head (h : CR σ B S) (hf : Fr (nP (B + 30)) σ σ') (hh : HD σ' (B + 30)) : CR σ' B S := by
  obtain ⟨a1, a2, a3, a4, a5, a6⟩ := h
  exact ⟨a1.ag (fun q q1 q2 => hf.ag (by unfold nP; omega)), a2.ag (fun q q1 q2 => hf.ag (by unfold nP; omega)), hh, fun x hx => (a4 x hx).ag (fun q hq => hf.ag (by unfold hP cA at hq; unfold nP; omega)), fun m m1 m2 => (a5 m m1 m2).ag (fun q q1 q2 => hf.ag (by unfold mA at q1 q2; unfold nP; omega)), fun i hi => (a6 i hi).ag (fun q q1 q2 => hf.ag (by unfold nP; omega))⟩
/-- only the routes' cells have changed -/
theorem CR.rout {R : List RO} (h : CR σ B S) (hf : Fr (fun q => B + 4 ≤ q ∧ q < B + 4 + 26) σ σ') (hr : RS σ' (B + 4) R) : CR σ' B (uR' S R) := by
  obtain ⟨a1, a2, a3, a4, a5, a6⟩ := h
  exact ⟨a1.ag (fun q q1 q2 => hf.ag (by omega)), hr, a3.ag (hf.ag (by omega)) (hf.ag (by omega)), fun x hx => (a4 x hx).ag (fun q hq => hf.ag (by unfold hP cA at hq; omega)), fun m m1 m2 => (a5 m m1 m2).ag (fun q q1 q2 => hf.ag (by unfold mA at q1 q2; omega)), fun i hi => (a6 i hi).ag (fun q q1 q2 => hf.ag (by omega))⟩
/-- only a case's cells have changed -/
theorem CR.case {i : Nat} {k : Nat × List Nat} (h : CR σ B S) (hi : i < S.2.2.1.length) (hi6 : S.2.2.1.length ≤ 6) (hf : Fr (fun q => B + 170 + 3 * i ≤ q ∧ q < B + 170 + 3 * i + 3) σ σ') (hk : CA σ' (B + 170 + 3 * i) k) : CR σ' B (uK S (S.2.2.1.set i k)) := by
  obtain ⟨a1, a2, a3, a4, a5, a6⟩ := h
  refine ⟨?_, a2.ag (fun q q1 q2 => hf.ag (by omega)), a3.ag (hf.ag (by omega)) (hf.ag (by omega)), fun x hx => (a4 x hx).ag (fun q hq => hf.ag (by unfold hP cA at hq; omega)), fun m m1 m2 => (a5 m m1 m2).ag (fun q q1 q2 => hf.ag (by unfold mA at q1 q2; omega)), fun j hj => ?_⟩
  · show DK σ' B S.2.1.length (S.2.2.1.set i k).length
    rw [List.length_set]
    exact a1.ag (fun q q1 q2 => hf.ag (by omega))
  · show CA σ' (B + 170 + 3 * j) ((S.2.2.1.set i k).getD j (0, []))
    by_cases hij : i = j
    · subst hij
      rw [List.getD_eq_getElem?_getD, List.getElem?_set_self hi]
      exact hk
    · rw [List.getD_eq_getElem?_getD, List.getElem?_set_ne hij, ← List.getD_eq_getElem?_getD]
      exact (a6 j hj).ag (fun q q1 q2 => hf.ag (by omega))
theorem msg_set {m x : Nat} {v : MS} (h1 : 1 ≤ m) (h2 : m ≤ M.length) (hx : 1 ≤ x) : msg (M.set (m - 1) v) x = if x = m then v else msg M x := by
  unfold msg
  rw [List.getD_eq_getElem?_getD]
  by_cases hxm : x = m
  · rw [if_pos hxm, hxm, List.getElem?_set_self (by omega)]; rfl
  · rw [if_neg hxm, List.getElem?_set_ne (by omega), ← List.getD_eq_getElem?_getD]
theorem SmT.fate {m c F : Nat} (h1 : 1 ≤ m) (h2 : m ≤ M.length) : SmT M (uFate M m c F) := by
  intro x x1 x2
  unfold uFate
  rw [msg_set h1 h2 x1]
  by_cases hxm : x = m
  · rw [if_pos hxm, hxm]; exact ⟨rfl, rfl, rfl⟩
  · rw [if_neg hxm]; exact ⟨rfl, rfl, rfl⟩
/-- only a channel's cells and a message's fate on it have changed -/
theorem CR.fate {c m F : Nat} {s : CS} (h : CR σ B S) (hc : c < 8) (hM : S.2.1.length ≤ 10) (hS : ∀ x, x < 8 → (sSd (S.1 x)).1 ≤ S.2.1.length) (h1 : 1 ≤ m) (h2 : m ≤ S.2.1.length) (hf : Fr (fun q => oP (cA B c + 6) q ∨ mP (mA B m) q) σ σ') (hs : CHr σ' (cA B c) B c (uFate S.2.1 m c F) s) (hm : ME σ' (mA B m) (sFate (msg S.2.1 m) c F)) : CR σ' B (uM (uC S c s) (uFate S.2.1 m c F)) := by
  obtain ⟨a1, a2, a3, a4, a5, a6⟩ := h
  refine ⟨?_, a2.ag (fun q q1 q2 => hf.ag (by unfold oP mP cA mA; omega)), a3.ag (hf.ag (by unfold oP mP cA mA; omega)) (hf.ag (by unfold oP mP cA mA; omega)), fun x hx => ?_, fun x x1 x2 => ?_, fun i hi => (a6 i hi).ag (fun q q1 q2 => hf.ag (by unfold oP mP cA mA; omega))⟩
  · show DK σ' B (uFate S.2.1 m c F).length S.2.2.1.length
    unfold uFate
    rw [List.length_set]
    exact a1.ag (fun q q1 q2 => hf.ag (by unfold oP mP cA mA; omega))
  · show CHr σ' (cA B x) B x (uFate S.2.1 m c F) (if x = c then s else S.1 x)
    by_cases hxc : x = c
    · rw [if_pos hxc, hxc]; exact hs
    · rw [if_neg hxc]
      exact ((a4 x hx).ag (fun q hq => hf.ag (by unfold hP cA at hq; unfold oP mP cA mA; omega))).sm (SmT.fate h1 h2) (hS x hx)
  · show ME σ' (mA B x) (msg (uFate S.2.1 m c F) x)
    unfold uFate
    rw [msg_set h1 h2 x1]
    by_cases hxm : x = m
    · rw [if_pos hxm, hxm]; exact hm
    · rw [if_neg hxm]
      exact (a5 x x1 x2).ag (fun q q1 q2 => hf.ag (by unfold mA at q1 q2; unfold oP mP cA mA; omega))
/-- the class's cells alone have changed, and at most one that nobody keeps was made -/
def Fb (P : Nat → Prop) (σ σ' : PH) : Prop := bs σ' = bs σ ∧ cc σ' ≤ cc σ + 1 ∧ cs σ' ≤ cs σ + 6 ∧ sh σ' = sh σ ∧ ∀ q, ¬ P q → Ag σ σ' q
abbrev dP (B : Nat) : Nat → Prop := fun q => B ≤ q ∧ q < B + 188
theorem Fr.fb {P Q : Nat → Prop} (h : Fr P σ σ') (hPQ : ∀ q, P q → Q q) : Fb Q σ σ' := ⟨h.1, by rw [h.2.1]; omega, by rw [h.2.2.1]; omega, h.2.2.2.1, fun q hq => h.2.2.2.2 q (fun z => hq (hPQ q z))⟩
theorem Fb.bump {P : Nat → Prop} : Fb P σ (bump σ 1 6) := ⟨rfl, by rw [cc_bump]; omega, by rw [cs_bump]; omega, rfl, fun _ _ => ⟨rfl, fun _ => rfl, fun _ => rfl, fun _ => rfl, fun _ => rfl, fun _ => rfl⟩⟩
theorem CR.bump (h : CR σ B S) : CR (bump σ 1 6) B S := h.ag (fun q _ _ => ⟨rfl, fun _ => rfl, fun _ => rfl, fun _ => rfl, fun _ => rfl, fun _ => rfl⟩)
/-- room for what a throw makes -/
def Rm (σ : PH) : Prop := cc σ + 1 ≤ 601024 ∧ cs σ + 6 ≤ 7293034
theorem c_needWithin {x lo hi : Int32} (hR : Rm σ) (h1 : ¬ x < lo → x ≤ hi → K (.inl none) σ) (h2 : (x < lo ∨ ¬ x ≤ hi) → K (.inr 0) (bump σ 1 6)) : PW (d + 6) M_Desk_needWithin 0 [.int x, .int lo, .int hi] [] σ K := by
  refine e_Desk_needWithin_0 x lo hi ?_
  by_cases h3 : x < lo
  · rw [if_pos h3]; exact ⟨hR.1, hR.2, h2 (Or.inl h3)⟩
  · rw [if_neg h3]
    by_cases h4 : x ≤ hi
    · rw [if_pos h4]; exact h1 h3 h4
    · rw [if_neg h4]; exact ⟨hR.1, hR.2, h2 (Or.inr h4)⟩
theorem chanN {x : Int32} (h1 : ¬ x < 0) (h2 : x ≤ 7) : ∃ c : Nat, c < 8 ∧ x = nI c := by
  obtain ⟨j, h3, h4⟩ := nI_of2 (M := 7) (n := 7) (by decide) h1 h2
  exact ⟨j, by omega, h4⟩
end Desk
