/-! ===== what the printed walks stand on ===== -/
theorem va_rf_some (b : Nat) : va_rf (some b) = .ref b := rfl
theorem va_rf_none : va_rf none = .null := rfl
section Glue
variable {d : Nat} {M : MI} {pc : Nat} {ls st : List Value} {σ : PH} {K K' : PO → PH → Prop}
theorem PW.mono (hk : ∀ o σ, K o σ → K' o σ) (h : PW d M pc ls st σ K) : PW d M pc ls st σ K' := by
  intro G p l e R s m args below meth c H locs cells slots A c0 s0 hC hR hA hL h1 h2 h3 h4
  intro T hT X
  obtain ⟨t, a, o, σ', x, L, k, n, b1, b2⟩ := h G p l e R s m args below meth c H locs cells slots A c0 s0 hC hR hA hL h1 h2 h3 h4 T hT X
  exact ⟨t, a, o, σ', x, L, k, n, hk o σ' b1, b2⟩
theorem PW.top {v v' : Value} (hv : v = v') (h : PW d M pc ls (v' :: st) σ K) : PW d M pc ls (v :: st) σ K := hv ▸ h
theorem PW.loc {ls' : List Value} (hv : ls = ls') (h : PW d M pc ls' st σ K) : PW d M pc ls st σ K := hv ▸ h
/-- behind a call that answers an int, nothing, a reference -/
def kI (F : Int32 → PH → Prop) (K : PO → PH → Prop) : PO → PH → Prop := fun o σ => match o with
  | .inl (some (.int r)) => F r σ
  | .inr k => K (.inr k) σ
  | _ => False
def kV (F : PH → Prop) (K : PO → PH → Prop) : PO → PH → Prop := fun o σ => match o with
  | .inl none => F σ
  | .inr k => K (.inr k) σ
  | _ => False
def kR (F : Option Nat → PH → Prop) (K : PO → PH → Prop) : PO → PH → Prop := fun o σ => match o with
  | .inl (some .null) => F none σ
  | .inl (some (.ref a)) => F (some a) σ
  | .inr k => K (.inr k) σ
  | _ => False
theorem kI_kN {F : Int32 → PH → Prop} (h : ∀ r σ', F r σ' → PW d M pc ls (.int r :: st) σ' K) : ∀ o σ', kI F K o σ' → kN d M pc ls st K o σ' := by
  intro o σ' ho
  match o, ho with
  | .inl (some (.int r)), ho => exact h r σ' ho
  | .inr k, ho => exact ho
theorem kV_kN {F : PH → Prop} (h : ∀ σ', F σ' → PW d M pc ls st σ' K) : ∀ o σ', kV F K o σ' → kN d M pc ls st K o σ' := by
  intro o σ' ho
  match o, ho with
  | .inl none, ho => exact h σ' ho
  | .inr k, ho => exact ho
theorem kR_kN {F : Option Nat → PH → Prop} (h : ∀ r σ', F r σ' → PW d M pc ls (va_rf r :: st) σ' K) : ∀ o σ', kR F K o σ' → kN d M pc ls st K o σ' := by
  intro o σ' ho
  match o, ho with
  | .inl (some .null), ho => exact h none σ' ho
  | .inl (some (.ref a)), ho => exact h (some a) σ' ho
  | .inr k, ho => exact ho
theorem pw_iincv {i : Nat} {n : Int} {x v : Int32} (hd : decode M.2.1 pc = .ok (.iinc i n, 3)) (hv : Int32.ofInt n = v) (hl : ls[i]? = some (.int x)) (hn : i < M.2.2.1) (h : PW d M (pc + 3) (ls.set i (.int (x + v))) st σ K) : PW d M pc ls st σ K := by
  subst hv
  exact pw_iinc hd hl hn h
/-- fewer locals are asked for -/
def dropL : List Value → List Value → Prop
  | [], [] => True
  | v :: vs, w :: ws => (w = v ∨ w = .retAddr 0) ∧ dropL vs ws
  | _, _ => False
theorem dropL.at : ∀ {ls ls' : List Value}, dropL ls ls' → ls'.length = ls.length ∧ ∀ (i : Nat) (v : Value), ls'[i]? = some v → (∀ n, v ≠ .retAddr n) → ls[i]? = some v
  | [], [], _ => ⟨rfl, fun i v h _ => h⟩
  | v :: vs, w :: ws, h => by
    obtain ⟨h1, h2⟩ := h
    obtain ⟨q1, q2⟩ := dropL.at h2
    refine ⟨by simp [q1], fun i x hx hr => ?_⟩
    cases i with
    | zero =>
      simp at hx
      subst hx
      rcases h1 with rfl | rfl
      · rfl
      · exact absurd rfl (hr 0)
    | succ i => simpa using q2 i x (by simpa using hx) hr
theorem PW.drop {ls' : List Value} (hd : dropL ls ls') (h : PW d M pc ls' st σ K) : PW d M pc ls st σ K := by
  intro G p l e R s m args below meth c H locs cells slots A c0 s0 hC hR hA hL h1 h2 h3 h4
  obtain ⟨q1, q2⟩ := hd.at
  exact h G p l e R s m args below meth c H locs cells slots A c0 s0 hC hR ⟨hA.1, hA.2.1, by rw [q1]; exact hA.2.2.1, fun i v hi hv => hA.2.2.2 i v (q2 i v hi hv) hv⟩ hL h1 h2 h3 h4
theorem pw_ldc_w {i : Nat} {v : Int32} (hd : decode M.2.1 pc = .ok (.ldc_w i, 3)) (hc : Cond.constant M.1.cls i v ∈ lw_tbl) (h : PW d M (pc + 3) ls (.int v :: st) σ K) : PW d M pc ls st σ K := by
  refine PW.ss ?_ h
  intro p l e R s m args below meth c H locs cells slots Q A hx hb ho ht hA kk
  intro T hT X
  obtain ⟨t, a, b⟩ := kk A hA T hT X
  refine ⟨t, ?_, b⟩
  obtain ⟨k, cf, bytes, hk, hcf, hcp, hbb⟩ := Cond.constant_spec ho (ht _ hc rfl args)
  obtain ⟨k', hk', he⟩ := X.warmed.alike.2.2 _ _ hk
  jvm_step X.here [hx, hb, hd, Op.ldc_w.sem, ldc.wp_int (s := T) (f := F0 m pc A st) X.here.top hk' (by rw [he]; exact hcf) hcp, hbb]
  exact a
theorem pw_mmin {i : Nat} {x y : Int32} (hd : decode M.2.1 pc = .ok (.invokestatic i, 3)) (hl : Cond.methodLink M.1.cls i Lib.Math.min.name ∈ lw_tbl) (hst : (st.map fun v => v.category).sum ≤ 8) (h : PW (d + 1) M (pc + 3) ls (.int (if y < x then y else x) :: st) σ K) : PW (d + 1) M pc ls (.int y :: .int x :: st) σ K := by
  intro G p l e R s m args below meth c H locs cells slots A c0 s0 hC hR hA hL h1 h2 h3 h4
  have hk := h G p l e R s m args below meth c H locs cells slots A c0 s0 hC hR hA hL h1 h2 h3 h4
  obtain ⟨hx, hb, hml, hret, hlocks, hnm, hfr, hlo, hTB, hKN, hmm, hex, hGK, hWs, hfl⟩ := hC
  have h5 := hR.2.2.2
  exact va_mmin hx hb (hml.trans hA.1.symm) (findClass_of_methodNamed hnm) (hTB _ hl rfl args) (hTB _ (List.mem_of_getElem? (i := 531) (by decide +kernel)) rfl args) (hTB _ (List.mem_of_getElem? (i := 82) (by decide +kernel)) rfl args) (hTB _ (List.mem_of_getElem? (i := 532) (by decide +kernel)) rfl args) (by omega) (by omega) (by omega) (by omega) hd hk
theorem pw_mmax {i : Nat} {x y : Int32} (hd : decode M.2.1 pc = .ok (.invokestatic i, 3)) (hl : Cond.methodLink M.1.cls i Lib.Math.max.name ∈ lw_tbl) (hst : (st.map fun v => v.category).sum ≤ 8) (h : PW (d + 1) M (pc + 3) ls (.int (if x < y then y else x) :: st) σ K) : PW (d + 1) M pc ls (.int y :: .int x :: st) σ K := by
  intro G p l e R s m args below meth c H locs cells slots A c0 s0 hC hR hA hL h1 h2 h3 h4
  have hk := h G p l e R s m args below meth c H locs cells slots A c0 s0 hC hR hA hL h1 h2 h3 h4
  obtain ⟨hx, hb, hml, hret, hlocks, hnm, hfr, hlo, hTB, hKN, hmm, hex, hGK, hWs, hfl⟩ := hC
  have h5 := hR.2.2.2
  exact va_mmax hx hb (hml.trans hA.1.symm) (findClass_of_methodNamed hnm) (hTB _ hl rfl args) (hTB _ (List.mem_of_getElem? (i := 804) (by decide +kernel)) rfl args) (hTB _ (List.mem_of_getElem? (i := 82) (by decide +kernel)) rfl args) (hTB _ (List.mem_of_getElem? (i := 805) (by decide +kernel)) rfl args) (by omega) (by omega) (by omega) (by omega) hd hk
end Glue
theorem ite_t {c : Prop} [Decidable c] {A B : Prop} (h : if c then A else B) (hc : c) : A := by rw [if_pos hc] at h; exact h
theorem ite_f {c : Prop} [Decidable c] {A B : Prop} (h : if c then A else B) (hc : ¬ c) : B := by rw [if_neg hc] at h; exact h
theorem cat_nil : ∀ w ∈ ([] : List Value), w.category = 1 := fun w hw => by cases hw
theorem cat_cons {v : Value} {vs : List Value} (h : v.category = 1) (hs : ∀ w ∈ vs, w.category = 1) : ∀ w ∈ v :: vs, w.category = 1 := fun w hw => by
  rcases List.mem_cons.mp hw with rfl | hw
  · exact h
  · exact hs w hw
/-- an unset local -/
abbrev uu : Value := .retAddr 0
