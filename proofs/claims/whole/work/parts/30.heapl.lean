/-! ===== pure: reads behind writes, frames ===== -/
section HeapL
variable {σ : PH} {f a j k n : Nat} {x : Int32} {o : Option Nat} {y : Int64}
theorem bs_pI : bs (pI σ f a x) = bs σ := Eq.trans rfl rfl
theorem cc_pI : cc (pI σ f a x) = cc σ := Eq.trans rfl rfl
theorem cs_pI : cs (pI σ f a x) = cs σ := Eq.trans rfl rfl
theorem sh_pI : sh (pI σ f a x) = sh σ := Eq.trans rfl rfl
theorem gR_pI : gR (pI σ f a x) = gR σ := Eq.trans rfl rfl
theorem eI_pI : eI (pI σ f a x) = eI σ := Eq.trans rfl rfl
theorem eR_pI : eR (pI σ f a x) = eR σ := Eq.trans rfl rfl
theorem eL_pI : eL (pI σ f a x) = eL σ := Eq.trans rfl rfl
theorem gI_pI {g b : Nat} : gI (pI σ f a x) g b = if g = f ∧ b = a then x else gI σ g b := Eq.trans rfl rfl
theorem bs_pR : bs (pR σ f a o) = bs σ := Eq.trans rfl rfl
theorem cc_pR : cc (pR σ f a o) = cc σ := Eq.trans rfl rfl
theorem cs_pR : cs (pR σ f a o) = cs σ := Eq.trans rfl rfl
theorem sh_pR : sh (pR σ f a o) = sh σ := Eq.trans rfl rfl
theorem gI_pR : gI (pR σ f a o) = gI σ := Eq.trans rfl rfl
theorem eI_pR : eI (pR σ f a o) = eI σ := Eq.trans rfl rfl
theorem eR_pR : eR (pR σ f a o) = eR σ := Eq.trans rfl rfl
theorem eL_pR : eL (pR σ f a o) = eL σ := Eq.trans rfl rfl
theorem gR_pR {g b : Nat} : gR (pR σ f a o) g b = if g = f ∧ b = a then o else gR σ g b := Eq.trans rfl rfl
theorem bs_uI : bs (uI σ a j x) = bs σ := Eq.trans rfl rfl
theorem cc_uI : cc (uI σ a j x) = cc σ := Eq.trans rfl rfl
theorem cs_uI : cs (uI σ a j x) = cs σ := Eq.trans rfl rfl
theorem sh_uI : sh (uI σ a j x) = sh σ := Eq.trans rfl rfl
theorem gI_uI : gI (uI σ a j x) = gI σ := Eq.trans rfl rfl
theorem gR_uI : gR (uI σ a j x) = gR σ := Eq.trans rfl rfl
theorem eR_uI : eR (uI σ a j x) = eR σ := Eq.trans rfl rfl
theorem eL_uI : eL (uI σ a j x) = eL σ := Eq.trans rfl rfl
theorem eI_uI {b i : Nat} : eI (uI σ a j x) b i = if b = a ∧ i = j then x else eI σ b i := Eq.trans rfl rfl
theorem bs_uR : bs (uR σ a j o) = bs σ := Eq.trans rfl rfl
theorem cc_uR : cc (uR σ a j o) = cc σ := Eq.trans rfl rfl
theorem cs_uR : cs (uR σ a j o) = cs σ := Eq.trans rfl rfl
theorem sh_uR : sh (uR σ a j o) = sh σ := Eq.trans rfl rfl
theorem gI_uR : gI (uR σ a j o) = gI σ := Eq.trans rfl rfl
theorem gR_uR : gR (uR σ a j o) = gR σ := Eq.trans rfl rfl
theorem eI_uR : eI (uR σ a j o) = eI σ := Eq.trans rfl rfl
theorem eL_uR : eL (uR σ a j o) = eL σ := Eq.trans rfl rfl
theorem eR_uR {b i : Nat} : eR (uR σ a j o) b i = if b = a ∧ i = j then o else eR σ b i := Eq.trans rfl rfl
theorem bs_uL : bs (uL σ a j y) = bs σ := Eq.trans rfl rfl
theorem cc_uL : cc (uL σ a j y) = cc σ := Eq.trans rfl rfl
theorem cs_uL : cs (uL σ a j y) = cs σ := Eq.trans rfl rfl
theorem sh_uL : sh (uL σ a j y) = sh σ := Eq.trans rfl rfl
theorem gI_uL : gI (uL σ a j y) = gI σ := Eq.trans rfl rfl
theorem gR_uL : gR (uL σ a j y) = gR σ := Eq.trans rfl rfl
theorem eI_uL : eI (uL σ a j y) = eI σ := Eq.trans rfl rfl
theorem eR_uL : eR (uL σ a j y) = eR σ := Eq.trans rfl rfl
theorem eL_uL {b i : Nat} : eL (uL σ a j y) b i = if b = a ∧ i = j then y else eL σ b i := Eq.trans rfl rfl
theorem bs_bump : bs (bump σ k n) = bs σ := Eq.trans rfl rfl
theorem cc_bump : cc (bump σ k n) = cc σ + k := Eq.trans rfl rfl
theorem cs_bump : cs (bump σ k n) = cs σ + n := Eq.trans rfl rfl
theorem sh_bump : sh (bump σ k n) = sh σ := Eq.trans rfl rfl
theorem gI_bump : gI (bump σ k n) = gI σ := Eq.trans rfl rfl
theorem gR_bump : gR (bump σ k n) = gR σ := Eq.trans rfl rfl
theorem eI_bump : eI (bump σ k n) = eI σ := Eq.trans rfl rfl
theorem eR_bump : eR (bump σ k n) = eR σ := Eq.trans rfl rfl
theorem eL_bump : eL (bump σ k n) = eL σ := Eq.trans rfl rfl
end HeapL
/-- from σ to σ' nothing changes but at addresses of P; no cell is made -/
def Fr (P : Nat → Prop) (σ σ' : PH) : Prop := bs σ' = bs σ ∧ cc σ' = cc σ ∧ cs σ' = cs σ ∧ sh σ' = sh σ ∧ ∀ q, ¬ P q → Ag σ σ' q
section Frames
variable {P Q : Nat → Prop} {σ σ' σ'' : PH}
theorem Ag.rf {q : Nat} : Ag σ σ q := ⟨rfl, fun _ => rfl, fun _ => rfl, fun _ => rfl, fun _ => rfl, fun _ => rfl⟩
theorem Ag.tr {q : Nat} (h : Ag σ σ' q) (h' : Ag σ' σ'' q) : Ag σ σ'' q := ⟨h'.1.trans h.1, fun f => (h'.2.1 f).trans (h.2.1 f), fun f => (h'.2.2.1 f).trans (h.2.2.1 f), fun j => (h'.2.2.2.1 j).trans (h.2.2.2.1 j), fun j => (h'.2.2.2.2.1 j).trans (h.2.2.2.2.1 j), fun j => (h'.2.2.2.2.2 j).trans (h.2.2.2.2.2 j)⟩
theorem Fr.rf : Fr P σ σ := ⟨rfl, rfl, rfl, rfl, fun _ _ => Ag.rf⟩
theorem Fr.tr (h : Fr P σ σ') (h' : Fr P σ' σ'') : Fr P σ σ'' := ⟨h'.1.trans h.1, h'.2.1.trans h.2.1, h'.2.2.1.trans h.2.2.1, h'.2.2.2.1.trans h.2.2.2.1, fun q hq => (h.2.2.2.2 q hq).tr (h'.2.2.2.2 q hq)⟩
theorem Fr.mo (h : Fr P σ σ') (hPQ : ∀ q, P q → Q q) : Fr Q σ σ' := ⟨h.1, h.2.1, h.2.2.1, h.2.2.2.1, fun q hq => h.2.2.2.2 q (fun z => hq (hPQ q z))⟩
theorem Fr.sh (h : Fr P σ σ') : sh σ' = sh σ := h.2.2.2.1
theorem Fr.ag (h : Fr P σ σ') {q : Nat} (hq : ¬ P q) : Ag σ σ' q := h.2.2.2.2 q hq
theorem Fr.pI {f a : Nat} {x : Int32} (ha : P a) : Fr P σ (pI σ f a x) := ⟨rfl, rfl, rfl, rfl, fun q hq => Ag.pI (fun e => hq (e ▸ ha))⟩
theorem Fr.pR {f a : Nat} {o : Option Nat} (ha : P a) : Fr P σ (pR σ f a o) := ⟨rfl, rfl, rfl, rfl, fun q hq => Ag.pR (fun e => hq (e ▸ ha))⟩
theorem Fr.uI {a j : Nat} {x : Int32} (ha : P a) : Fr P σ (uI σ a j x) := ⟨rfl, rfl, rfl, rfl, fun q hq => Ag.uI (fun e => hq (e ▸ ha))⟩
theorem Fr.uR {a j : Nat} {o : Option Nat} (ha : P a) : Fr P σ (uR σ a j o) := ⟨rfl, rfl, rfl, rfl, fun q hq => Ag.uR (fun e => hq (e ▸ ha))⟩
theorem Fr.uL {a j : Nat} {y : Int64} (ha : P a) : Fr P σ (uL σ a j y) := ⟨rfl, rfl, rfl, rfl, fun q hq => Ag.uL (fun e => hq (e ▸ ha))⟩
end Frames
/-! numbers -/
theorem ch_nI {n : Nat} (h : n < 65536) : ch (nI n) := (pk_charN h).1
theorem ch_0 : ch 0 := rfl
theorem nI_lt0 {n : Nat} (h : n < 2147483648) : ¬ nI n < 0 := nI_pos (by omega)
theorem nI_le_iff {a b : Nat} (ha : a < 2147483648) (hb : b < 2147483648) : nI a ≤ nI b ↔ a ≤ b := nI_leI (by omega) (by omega)
theorem nI_lt_iff {a b : Nat} (ha : a < 2147483648) (hb : b < 2147483648) : nI a < nI b ↔ a < b := nI_ltI (by omega) (by omega)
theorem nI_eq_iff {a b : Nat} (ha : a < 2147483648) (hb : b < 2147483648) : nI a = nI b ↔ a = b := nI_eq (by omega) (by omega)
theorem ix_n {n : Nat} (h : n < 2147483648) : ix (nI n) = n := ix_nI (by omega)
theorem in_n {n N : Nat} (h : n < N) (hN : N < 2147483648) : vp_in (nI n) N := vp_in_nI h (by omega)
