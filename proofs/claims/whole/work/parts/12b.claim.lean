/-! ===== the claim out of the pure walk of the law ===== -/
/-- the pure heap at the entry -/
def σ0 (n b L a v : Nat) (xs : Nat → Int32) : PH := (n, 0, 0, fun q => if q = b then (10, L) else if q = a then (0, 1) else if q = v then (11, 21) else (0, 0), fun _ _ => 0, fun f q => if f = 9000 ∧ q = a then some v else none, fun q j => if q = b then xs j else if q = v then figB j else 0, fun _ _ => none, fun _ _ => 0, 0, none)
theorem rep_start {s : State} {b L : Nat} {xs : Nat → Int32} {dC : Nat → ClassId} {dI : Nat → Nat → Nat} (hX : va_X b L xs s s.heap) (hL : L ≤ 2048) (hn : (Jvm.Cond.and given_1 narrow_1).before #[Value.ref b] s = true) :
    ∃ a v : Nat, Rep (s.heap.size, dC, dI, s) (σ0 s.heap.size b L a v xs) s s.heap ∧ LawIn (σ0 s.heap.size b L a v xs) b L xs := by
  obtain ⟨a, v, cv, p1, p2, p3, p4, p5, p6, p7, p8⟩ := txt_start hn
  obtain ⟨scr, x1, x2, x3, x4, x5⟩ := hX
  have hb : b < s.heap.size := (Array.getElem?_eq_some_iff.mp x1).1
  have hv : v < s.heap.size := (Array.getElem?_eq_some_iff.mp p3).1
  have ha : a < s.heap.size := by
    obtain ⟨cell, q1, -⟩ := p2
    exact (Array.getElem?_eq_some_iff.mp q1).1
  have hab : a ≠ b := by
    intro e
    obtain ⟨cell, q1, q2, q3, q4, -, cf, k, fi, f, q5, q6, q7⟩ := p2
    rw [e, x1] at q1
    cases q1
    have hlt : f.slot < L := by rw [← x4]; exact (Array.getElem?_eq_some_iff.mp q7).1
    have := (x5 f.slot hlt).symm.trans q7
    cases this
  have hvb : v ≠ b := by
    intro e
    rw [e, x1] at p3
    cases p3
    obtain ⟨k1, h1, c1, h2⟩ := x2.2
    obtain ⟨k2, h3, c2, h4⟩ := p4.2
    cases h1.symm.trans h3
    rw [h2] at h4
    cases h4
  refine ⟨a, v, ⟨fun q => ?_, rfl, rfl, Nat.zero_le _, Nat.zero_le _, fun q hq => rfl, ?_⟩, rfl, rfl, by simp [sh, σ0], hL, fun j _ => by simp [eI, σ0], hb⟩
  · unfold RA
    by_cases h1 : q = b
    · subst h1
      have e : sh (σ0 s.heap.size q L a v xs) q = (10, L) := by simp [sh, σ0]
      rw [e]
      refine ⟨Nat.le_of_ble_eq_true rfl, fun h => absurd (show 10 < 10 from h) (by decide), by show L < 2 ^ 31; omega, scr, x1, x2, x3, x4, fun j hj => ?_, fun h => by cases h⟩
      rw [x5 j hj]
      simp [av, aT, isR, eI, σ0]
    · by_cases h2 : q = a
      · subst h2
        have e : sh (σ0 s.heap.size b L q v xs) q = (0, 1) := by simp [sh, σ0, h1]
        have e2 : gR (σ0 s.heap.size b L q v xs) 9000 q = some v := by simp [gR, σ0]
        rw [e, e2]
        exact fun _ => ⟨ha, p2⟩
      · by_cases h3 : q = v
        · subst h3
          have e : sh (σ0 s.heap.size b L a q xs) q = (11, 21) := by simp [sh, σ0, h1, h2]
          rw [e]
          refine ⟨by decide, fun h => absurd h (by decide), by decide, cv, p3, p4, p5, p6, fun j hj => ?_, fun h => by cases h⟩
          rw [p7 j hj]
          simp [av, aT, isR, eI, σ0, h1]
        · have e : sh (σ0 s.heap.size b L a v xs) q = (0, 0) := by simp [sh, σ0, h1, h2, h3]
          rw [e]
          exact fun h => by cases h
  · exact ⟨a, v, p1, ha, hv, by simp [sh, σ0, hab], by simp [gR, σ0], by simp [sh, σ0, hvb, Ne.symm p8], fun j _ => by simp [eI, σ0, hvb]⟩
def lw_P (b : Addr) (xs : List Int32) (args : Array Value) (s : State) : Prop := args = #[.ref b] ∧ s.IntsAt b xs ∧ xs.length ≤ 2048 ∧ (Jvm.Cond.and given_1 narrow_1).before args s = true
def lw_Q (_ : Array Value) (s : State) (o : Outcome) (t : State) : Prop := o = .returned (some (.int 1)) ∧ Framed s o t [] 601024 7293034
def lw_Z (below : List Frame) (a : Array Value) (s : State) : State → Prop := fun t => ∃ o, t.status = .running ∧ Ended t below o ∧ lw_Q a s o t
set_option maxHeartbeats 4000000 in
theorem lw_walk (hpure : LawPure) (l : Launch) (hfl : l.flags = flags0) (b : Addr) (xs : List Int32) : MetFree l x (headSpec (Jvm.Cond.code x code maxLocals ret :: tables_1) room_1) (lw_P b xs) (fun _ _ _ _ _ => True) lw_Q := by
  refine MetFree.of_bodyS (code := code) (maxLocals := maxLocals) (ret := ret) (by decide) ?_ ?_
  · intro args s m h hn
    obtain ⟨meth, c, h1, h2, h3, h4, h5, h6, -, -⟩ := Cond.code_spec hn (atoms_spec (ws := Jvm.Cond.code x code maxLocals ret :: tables_1) h _ List.mem_cons_self)
    exact ⟨meth, c, h1, h2, h3, h4, h5, h6⟩
  · intro p e s m args below meth c s₁ B hml0 hP _
    obtain ⟨rfl, hx, hbd, hgv⟩ := hP
    obtain ⟨scr, harrAt, hlist, hof, hsmall⟩ := hx
    obtain ⟨hcb, hkn, -, -⟩ := State.arrayAt?_spec harrAt
    have hts0 : ∀ c ∈ (Jvm.Cond.code x code maxLocals ret :: tables_1), c.before #[Value.ref b] s = true := atoms_spec (ws := Jvm.Cond.code x code maxLocals ret :: tables_1) B.pre
    have hts : ∀ w ∈ lw_tbl, w.before #[Value.ref b] s = true := k2_hts_sels lw_privs (fun w hw => hts0 w (List.mem_cons_of_mem _ hw)) lw_privs_ok
    have hml : c.maxLocals = 7 := B.maxLocals_eq (hts0 _ List.mem_cons_self)
    have X₀ : Stand p l e room_1 s m #[Value.ref b] below meth c s₁ [] 0 0 := Stand.of_body B
    have hh0 : s₁.heap = s.heap := by rw [B.state]; rfl
    have hsz : scr.slots.size = xs.length := by rw [← Array.length_toList, hlist, List.length_map]
    have hval : ∀ j : Nat, j < xs.length → scr.slots[j]? = some (.int (xs.getD j 0)) := fun j hj => by
      rw [← Array.getElem?_toList, hlist]
      simp [hj]
    have hX : va_X b xs.length (fun j => xs.getD j 0) s s.heap := ⟨scr, hcb, hof, hkn, hsz, hval⟩
    obtain ⟨meth2, c2, z1, z2, -, -, -, -, z7, -⟩ := Cond.code_spec B.named (hts0 _ List.mem_cons_self)
    cases B.method.symm.trans z1
    cases X₀.code.symm.trans z2
    have hT0 : ∀ w ∈ lw_tbl, okW w = true → ∀ a : Array Value, w.before a s = true := fun w hw hk a => by
      by_cases hg : goodWord w = true
      · exact word_at (U := s) (State.WarmedH.refl s) (good_of_word hg) (hts w hw)
      · have hn : isNest w = true := by
          unfold okW at hk
          simpa [hg] using hk
        have h0 := hts w hw
        cases w <;> first | (simp [isNest] at hn; done) | exact va_tabs rfl rfl h0 | exact h0 | skip
    obtain ⟨dC, dI, hKN⟩ : ∃ (dC : Nat → ClassId) (dI : Nat → Nat → Nat), ∀ c, c < 12 → u_Kn s (clN c) (clT c) (clF c) (dC c) (dI c) := by
      have h0 : ∀ c : Nat, ∃ q : ClassId × (Nat → Nat), c < 12 → u_Kn s (clN c) (clT c) (clF c) q.1 q.2 := by
        intro c
        by_cases hc : c < 12
        · obtain ⟨cC, iS, h⟩ := u_known (C := clN c) (T := clT c) (N := clF c) (n := clF c) (ws := lw_tbl) hts (cl_in c hc) (hts _ (cl_is c hc).1)
          exact ⟨(cC, iS), fun _ => h⟩
        · exact ⟨(0, fun _ => 0), fun h => absurd h hc⟩
      obtain ⟨f, hf⟩ := Classical.axiomOfChoice h0
      exact ⟨fun c => (f c).1, fun c => (f c).2, fun c hc => hf c hc⟩
    obtain ⟨a, v, hRep, hIn⟩ := rep_start (dC := dC) (dI := dI) hX hbd hgv
    have hCtx : Ctx (s.heap.size, dC, dI, s) 13 M_Law_law p l room_1 s m meth c :=
      ⟨B.exec, B.bytes, hml, B.returns, B.notSynchronized, B.named, by decide, by decide, hT0, hKN, B.method, by rw [show c.exceptionTable.toList = [] by simpa using z7]; rfl, ⟨rfl, b, hgv, hts⟩, State.WarmedH.refl s, hfl⟩
    have hW := hpure _ b xs.length _ hIn (s.heap.size, dC, dI, s) p l e room_1 s m #[Value.ref b] below meth c s.heap [] 0 0 _ 0 0 hCtx hRep (LV.entry [.ref b] (n := 7) (cat_cons rfl cat_nil) (Nat.le_of_ble_eq_true rfl)) (fun q hq => by cases hq) rfl rfl rfl rfl
    rw [← lg_entry_eq] at hW
    obtain ⟨t, a1, o, σ', x', L, k, n, hK, hrun, hend, hWt, hsame, hLb, hk1, hk2, hRep', hO⟩ := hW s₁ hh0 X₀
    subst hK
    have hxe : x' = .returned (some (.int 1)) := hO
    subst hxe
    refine ⟨t, _, a1, hrun, hend, rfl, ⟨_, rfl⟩, hWt, ?_⟩
    refine hsame.weaken (fun y hy hlt => absurd hlt (Nat.not_lt.mpr (hLb y hy))) ?_ ?_
    · have := hRep'.2.2.2.1
      omega
    · have := hRep'.2.2.2.2.1
      omega
theorem lw_pre_spec {args : Array Value} {s : State} (h : (Jvm.Cond.and given_1 narrow_1).before args s = true) (hr : rest_1_c.before args s = true) : ∃ (b : Addr) (xs : List Int32), lw_P b xs args s := by
  have hs := flat_of_before _ h
  have hq := flat_of_before _ hr
  have hc : (Cond.count 1).before args s = true := hs _ (by decide +kernel)
  have harr : (Cond.arrayOf (.arg 0) .int).before args s = true := hs _ (by decide +kernel)
  have hle : (Cond.le (.length (.arg 0)) (.int 2048)).before args s = true := hs _ (by decide +kernel)
  have hlen : (Cond.isInt (.length (.arg 0))).before args s = true := hq _ (by decide +kernel)
  have hall : (Cond.all (.arg 0) (.isInt (.elem (.arg 0) (.index 0)))).before args s = true := hq _ (by decide +kernel)
  obtain ⟨b, xs, hb, hx⟩ := State.ints_of_pre rfl harr hlen hall
  have hsm : xs.length < 2 ^ 31 := hx.choose_spec.2.2.2
  have hev : (Term.length (.arg 0)).eval args s none [] s = some (.int xs.length.toInt32) := hx.length_eval hb
  have hv := Cond.le_ints hev (show (Term.int 2048).eval args s none [] s = some (.int 2048) from rfl)
  have hd : xs.length.toInt32 ≤ 2048 := by
    simpa [Cond.before, Cond.holds, hv] using hle
  have hN : xs.length ≤ 2048 := (Int32.ofNat_le_ofNat hsm (by decide)).mp (show Int32.ofNat xs.length ≤ Int32.ofNat 2048 from hd)
  exact ⟨b, xs, Cond.one_arg hc (show args[0]? = some (.ref b) from hb), hx, hN, h⟩
theorem lw_comes (hpure : LawPure) (l : Launch) (hfl : l.flags = flags0) : Comes l x (Jvm.Cond.code x code maxLocals ret :: tables_1) room_1 (fun tb e args s => Calls_1 tb e args s ∧ rest_1 tb e args s ∧ Pre_1 tb e args s)
    (fun _ _ args s o t => lw_Q args s o t) := by
  intro p e ha hc hk s m args below hf hfit hheap happ hpre
  obtain ⟨b, xs, hP⟩ := lw_pre_spec hpre.2.2 hpre.2.1
  obtain ⟨k, o, h1, h2, h3, hQ⟩ := lw_walk hpure l hfl b xs p e ha hc hk s m args below hf ((Spec.applies_iff_loose hf).mp happ).1 hP trivial
  exact ⟨k, o, h1, h2, h3, hQ⟩
theorem lw_frame {s t : State} {o : Outcome} {args : Array Value} (h : Framed s o t [] 601024 7293034) :
    Framed s o t (fieldLocs frame_1_writes args s ++ arrayLocs frame_1_arrays args s ++ staticLocs frame_1_statics s) 601024 7293034 := h
theorem lw_limb (hpure : LawPure) (L : Cond) (hL : ∀ (args : Array Value) (s t : State), L.after args s (.returned (some (.int 1))) t = true) :
    ArmFor flags0 classFile x code maxLocals ret World_1 tables_1 room_1 Calls_1 rest_1 Pre_1
      (fun tb e a s o t => postC L tb e a s o t ∧ Framed s o t (fieldLocs frame_1_writes a s ++ arrayLocs frame_1_arrays a s ++ staticLocs frame_1_statics s) 601024 7293034) := by
  intro l hfl _ _ p e ha hc hk s m args below hf hfit hheap happ hpre
  obtain ⟨k, o, h1, h2, h3, rfl, hF⟩ := lw_comes hpure l hfl p e ha hc hk s m args below hf hfit hheap happ hpre
  exact ⟨k, _, h1, h2, h3, hL args s _, lw_frame hF⟩
theorem whole_of (hpure : LawPure) : Claimed_1_1 ∧ Claimed_1_2 := ⟨lw_limb hpure limb_1_1 (fun args s t => by simp [limb_1_1, Cond.after, Cond.holds, Cond.value]), lw_limb hpure limb_1_2 (fun args s t => Cond.after_iff.mpr (by
  first | (rw [show limb_1_2 = Cond.eq .result (.int 1) from rfl, Cond.eq_ints (x := 1) (y := 1) rfl rfl]; simp; done) | (simp [limb_1_2, Cond.value, Term.eval]; done)))⟩
