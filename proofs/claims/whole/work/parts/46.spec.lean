/-! ===== what the document's machine is: its state and its steps ===== -/
/-- a channel: open?, gathered, in figures?, LAST, missing, the last number sent out, what is being sent (message from 1 on or 0; number; again?), signs out, sent (message, number; the oldest first), asked for -/
abbrev CS : Type := Bool × List Nat × Bool × Nat × List Nat × Nat × (Nat × Nat × Bool) × Nat × List (Nat × Nat) × List (Nat × Nat)
def sOp (s : CS) : Bool := s.1
def sG (s : CS) : List Nat := s.2.1
def sF (s : CS) : Bool := s.2.2.1
def sLa (s : CS) : Nat := s.2.2.2.1
def sMi (s : CS) : List Nat := s.2.2.2.2.1
def sLn (s : CS) : Nat := s.2.2.2.2.2.1
def sSd (s : CS) : Nat × Nat × Bool := s.2.2.2.2.2.2.1
def sOut (s : CS) : Nat := s.2.2.2.2.2.2.2.1
def sSent (s : CS) : List (Nat × Nat) := s.2.2.2.2.2.2.2.2.1
def sAsk (s : CS) : List (Nat × Nat) := s.2.2.2.2.2.2.2.2.2
def cs0 : CS := (true, [], false, 999, [], 0, (0, 0, false), 0, [], [])
def wOp (s : CS) (x : Bool) : CS := (x, sG s, sF s, sLa s, sMi s, sLn s, sSd s, sOut s, sSent s, sAsk s)
def wIn (s : CS) (g : List Nat) (f : Bool) : CS := (sOp s, g, f, sLa s, sMi s, sLn s, sSd s, sOut s, sSent s, sAsk s)
def wNu (s : CS) (la : Nat) (mi : List Nat) : CS := (sOp s, sG s, sF s, la, mi, sLn s, sSd s, sOut s, sSent s, sAsk s)
def wOu (s : CS) (ln : Nat) (sd : Nat × Nat × Bool) (o : Nat) (se as : List (Nat × Nat)) : CS := (sOp s, sG s, sF s, sLa s, sMi s, ln, sd, o, se, as)
/-- channels, messages, cases, routes -/
abbrev SP : Type := (Nat → CS) × List MS × List (Nat × List Nat) × List RO
def uC (S : SP) (c : Nat) (s : CS) : SP := (fun x => if x = c then s else S.1 x, S.2)
def uM (S : SP) (M : List MS) : SP := (S.1, M, S.2.2)
def uK (S : SP) (C : List (Nat × List Nat)) : SP := (S.1, S.2.1, C, S.2.2.2)
def uR' (S : SP) (R : List RO) : SP := (S.1, S.2.1, S.2.2.1, R)
def S0 : SP := (fun _ => cs0, [], [], [])
/-- the stream of signs of a tape -/
def stp (tp : List Nat) (p : Nat × Bool) : Nat × Bool := if shf (tp.getD p.1 0) p.2 = true then (p.1, !p.2) else (p.1 + 1, p.2)
def run (tp : List Nat) : Nat → Nat × Bool
  | 0 => (0, false)
  | n + 1 => stp tp (run tp n)
def emi (tp : List Nat) (p : Nat × Bool) : Int32 := if shf (tp.getD p.1 0) p.2 = true then nI (if p.2 = true then 28 else 29) else sgI (tp.getD p.1 0)
/-- the message at a place from 1 on -/
def msg (M : List MS) (m : Nat) : MS := M.getD (m - 1) ms0
def sFate (m : MS) (c F : Nat) : MS := (m.1, m.2.1, m.2.2.1, fun y => if y = c then F else m.2.2.2 y)
def uFate (M : List MS) (m c F : Nat) : List MS := M.set (m - 1) (sFate (msg M m) c F)
/-- the message whose turn it is, of the first n -/
def fwF (M : List MS) (c : Nat) : Nat → Nat
  | 0 => 0
  | n + 1 => if (msg M (n + 1)).2.2.2 c = 1 ∧ (fwF M c n = 0 ∨ (msg M (n + 1)).1 < (msg M (fwF M c n)).1) then n + 1 else fwF M c n
def qF (M : List MS) (c p : Nat) : Nat → Nat
  | 0 => 0
  | n + 1 => if (msg M (n + 1)).2.2.2 c = 1 ∧ (msg M (n + 1)).1 = p then qF M c p n + 1 else qF M c p n
def ncF (C : List (Nat × List Nat)) : Nat → Nat
  | 0 => 0
  | n + 1 => if (C.getD n (0, [])).1 = 0 then ncF C n else ncF C n + 1
noncomputable def pN (P : Prop) : Nat := @ite Nat P (Classical.propDecidable P) 1 0
theorem pN_t {P : Prop} (h : P) : pN P = 1 := by unfold pN; exact if_pos h
theorem pN_f {P : Prop} (h : ¬ P) : pN P = 0 := by unfold pN; exact if_neg h
theorem pN_le {P : Prop} : pN P ≤ 1 := by unfold pN; split <;> omega
/-- the channel that a row leads to -/
def chOf (S : SP) (r : RO) : Nat := if sOp (S.1 r.2.1) = false ∧ sOp (S.1 r.2.2.1) = true then r.2.2.1 else r.2.1
/-- a channel is reached from some indicators; some of them lead nowhere -/
def Rd (S : SP) (ks : List Nat) (c : Nat) : Prop := ∃ i, i < S.2.2.2.length ∧ Rc S.2.2.2 (Sd S.2.2.2 ks) 12 i ∧ (S.2.2.2.getD i r0).2.2.2 = [] ∧ chOf S (S.2.2.2.getD i r0) = c
def Lost (S : SP) (ks : List Nat) : Prop := Rc S.2.2.2 (Sd S.2.2.2 ks) 12 12
noncomputable def newM (S : SP) (xs : List Nat) : MS := (hPrc xs, hInd xs, xs.drop (fle xs + 1), fun c => pN (Rd S (hInd xs) c))
noncomputable def addM (S : SP) (xs : List Nat) : SP := uM S (S.2.1 ++ [newM S xs])
def addC (S : SP) (r : Nat) : SP := uK S (if S.2.2.1.length < 6 then S.2.2.1 ++ [(r, [])] else S.2.2.1)
/-- what an END on channel c brings -/
noncomputable def hand (S : SP) (c : Nat) (xs : List Nat) (lg : Bool) : SP × Nat :=
  if flt xs lg = 1 then (addC S 1, 3)
  else if due (sLa (S.1 c)) (sMi (S.1 c)) (hNum xs) = false ∧ ¬ plc (sMi (S.1 c)) (hNum xs) < (sMi (S.1 c)).length then (S, 2)
  else if S.2.1.length = 10 then (S, 4)
  else if flt xs lg ≠ 0 then (addC (uC S c (wNu (S.1 c) (tkL (sLa (S.1 c)) (sMi (S.1 c)) (hNum xs)) (tkM (sLa (S.1 c)) (sMi (S.1 c)) (hNum xs)))) (flt xs lg), 3)
  else (@ite SP (Lost S (hInd xs)) (Classical.propDecidable _) (addC (addM (uC S c (wNu (S.1 c) (tkL (sLa (S.1 c)) (sMi (S.1 c)) (hNum xs)) (tkM (sLa (S.1 c)) (sMi (S.1 c)) (hNum xs)))) xs) 5) (addM (uC S c (wNu (S.1 c) (tkL (sLa (S.1 c)) (sMi (S.1 c)) (hNum xs)) (tkM (sLa (S.1 c)) (sMi (S.1 c)) (hNum xs)))) xs), 1)
noncomputable def spSign (S : SP) (c s : Nat) : SP × Int32 :=
  if sOp (S.1 c) = false then (S, m1)
  else if inkE (sG (S.1 c)) (sF (S.1 c)) s = true then
    let h := hand S c (inkT (sG (S.1 c))) (decide (60 < lnS (sG (S.1 c))))
    (uC h.1 c (wIn (h.1.1 c) [] false), nI h.2)
  else (uC S c (wIn (S.1 c) (inkG (sG (S.1 c)) (sF (S.1 c)) s) (inkF (sF (S.1 c)) s)), nI 0)
def spOpen (S : SP) (c : Nat) (is : Bool) : SP := uC S c (if is = true then wOp (S.1 c) true else wNu (wIn (wOu (wOp (S.1 c) false) (sLn (S.1 c)) (sSd (S.1 c)) 0 (sSent (S.1 c)) (sAsk (S.1 c))) [] false) (sLa (S.1 c)) [])
def lose (s : CS) : CS := wIn (wOu s (sLn s) (sSd s) 0 (sSent s) (sAsk s)) [] false
def spCut (S : SP) : SP := (fun c => lose (S.1 c), S.2)
/-- what is picked to be sent next -/
def spPick (S : SP) (c : Nat) : SP :=
  if (sSd (S.1 c)).1 ≠ 0 then S
  else match sAsk (S.1 c) with
    | (m, k) :: rest => uC S c (wOu (S.1 c) (sLn (S.1 c)) (m, k, true) 0 (sSent (S.1 c)) rest)
    | [] => if fwF S.2.1 c S.2.1.length = 0 then S
      else uM (uC S c (wOu (S.1 c) (nb (sLn (S.1 c))) (fwF S.2.1 c S.2.1.length, nb (sLn (S.1 c)), false) 0 (sSent (S.1 c)) [])) (uFate S.2.1 (fwF S.2.1 c S.2.1.length) c 2)
/-- one sign more of what is being sent -/
def sdT (S : SP) (c : Nat) : List Nat := tape (msg S.2.1 (sSd (S.1 c)).1) (sSd (S.1 c)).2.1 (sSd (S.1 c)).2.2
def last3 (l : List (Nat × Nat)) : List (Nat × Nat) := l.drop (l.length - 3)
def spStep (S : SP) (c : Nat) : SP :=
  if (run (sdT S c) (sOut (S.1 c) + 1)).1 < (sdT S c).length then uC S c (wOu (S.1 c) (sLn (S.1 c)) (sSd (S.1 c)) (sOut (S.1 c) + 1) (sSent (S.1 c)) (sAsk (S.1 c)))
  else if (sSd (S.1 c)).2.2 = true then uC S c (wOu (S.1 c) (sLn (S.1 c)) (0, 0, false) 0 (sSent (S.1 c)) (sAsk (S.1 c)))
  else uM (uC S c (wOu (S.1 c) (sLn (S.1 c)) (0, 0, false) 0 (last3 (sSent (S.1 c) ++ [((sSd (S.1 c)).1, (sSd (S.1 c)).2.1)])) (sAsk (S.1 c)))) (uFate S.2.1 (sSd (S.1 c)).1 c ((sSd (S.1 c)).2.1 + 2))
def spSend (S : SP) (c : Nat) : SP × Int32 :=
  if sOp (S.1 c) = false then (S, m1)
  else if (sSd ((spPick S c).1 c)).1 = 0 then (spPick S c, m1)
  else (spStep (spPick S c) c, emi (sdT (spPick S c) c) (run (sdT (spPick S c) c) (sOut ((spPick S c).1 c))))
/-- the sent one of a number -/
def fndS (l : List (Nat × Nat)) (k : Nat) : Option (Nat × Nat) := l.find? (fun p => decide (p.2 = k))
def spRerun (S : SP) (c k : Nat) : SP × Nat := match fndS (sSent (S.1 c)) k with
  | none => (S, 0)
  | some p => (uC S c (wOu (S.1 c) (sLn (S.1 c)) (sSd (S.1 c)) (sOut (S.1 c)) (sSent (S.1 c)) (sAsk (S.1 c) ++ [p])), 1)
/-- what holds of every state; T: how many calls there were -/
def InvC (M : List MS) (c T : Nat) (s : CS) : Prop := (sG s).length ≤ T ∧ (∀ x ∈ sG s, x < 128) ∧ 1 ≤ sLa s ∧ sLa s ≤ 999 ∧ (sMi s).length ≤ 30 ∧ (∀ x ∈ sMi s, 1 ≤ x ∧ x ≤ 999) ∧ sLn s ≤ T ∧ (sSd s).1 ≤ M.length ∧ ((sSd s).1 ≠ 0 → 1 ≤ (sSd s).2.1 ∧ (sSd s).2.1 ≤ sLn s ∧ (run (tape (msg M (sSd s).1) (sSd s).2.1 (sSd s).2.2) (sOut s)).1 < (tape (msg M (sSd s).1) (sSd s).2.1 (sSd s).2.2).length ∧ ((sSd s).2.2 = false → (sSd s).2.1 = sLn s ∧ (msg M (sSd s).1).2.2.2 c = 2 ∧ ∀ p ∈ sSent s, p.2 < sLn s)) ∧ (sSent s).length ≤ 3 ∧ (sAsk s).length ≤ 3 ∧ (∀ p, p ∈ sSent s ∨ p ∈ sAsk s → 1 ≤ p.1 ∧ p.1 ≤ M.length ∧ 1 ≤ p.2 ∧ p.2 ≤ sLn s ∧ (msg M p.1).2.2.2 c = p.2 + 2) ∧ (sSent s).Pairwise (fun p q => p.2 < q.2)
def Inv (S : SP) (T : Nat) : Prop := S.2.1.length ≤ 10 ∧ S.2.2.1.length ≤ 6 ∧ S.2.2.2.length ≤ 12 ∧ (∀ c, c < 8 → InvC S.2.1 c T (S.1 c)) ∧ (∀ i j, i < S.2.2.2.length → j < S.2.2.2.length → (S.2.2.2.getD i r0).1 = (S.2.2.2.getD j r0).1 → i = j)
