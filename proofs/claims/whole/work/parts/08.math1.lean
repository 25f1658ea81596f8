/-! The contract machine as numbers: code (size, operators, arguments); a state (at, depth, gas, stack, cells, sent, found, how, way). -/
abbrev CDE : Type := Nat × (Nat → Nat) × (Nat → Nat)
abbrev PM : Type := Nat × Nat × Nat × (Nat → Nat) × (Nat → Nat) × Bool × (Nat → Nat → Bool) × Nat × List Nat
def pAt (s : PM) : Nat := s.1
def pDe (s : PM) : Nat := s.2.1
def pGa (s : PM) : Nat := s.2.2.1
def pSt (s : PM) : Nat → Nat := s.2.2.2.1
def pCe (s : PM) : Nat → Nat := s.2.2.2.2.1
def pSe (s : PM) : Bool := s.2.2.2.2.2.1
def pFo (s : PM) : Nat → Nat → Bool := s.2.2.2.2.2.2.1
def pHo (s : PM) : Nat := s.2.2.2.2.2.2.2.1
def pWa (s : PM) : List Nat := s.2.2.2.2.2.2.2.2
def nup (f : Nat → Nat) (k x : Nat) : Nat → Nat := fun j => if j = k then x else f j
def fup (f : Nat → Nat → Bool) (a b : Nat) : Nat → Nat → Bool := fun i j => if i = a ∧ j = b then true else f i j
def oCost (o : Nat) : Nat := if o = 19 then 5 else if o = 8 ∨ o = 15 then 3 else 1
def oTake (o : Nat) : Nat := if (6 ≤ o ∧ o ≤ 12) ∨ o = 15 ∨ o = 18 then 2 else if o = 5 ∨ o = 13 ∨ o = 14 ∨ o = 17 ∨ o = 19 ∨ o = 21 then 1 else 0
def oPuts (o : Nat) : Nat := if o ≤ 3 ∨ (6 ≤ o ∧ o ≤ 14) ∨ o = 19 ∨ o = 20 then 1 else 0
/-- the first MARK with an argument, the size if there is none -/
def mkAt (cd : CDE) (a : Nat) : Option Nat := (List.range cd.1).find? (fun k => decide (cd.2.1 k = 16 ∧ cd.2.2 k = a))
def pUn (s : PM) (i : Nat) : Nat := if i < pDe s then pSt s (pDe s - 1 - i) else 0
/-- the kind of the fault: 4 another, 0 a failed assert -/
def pFault (cd : CDE) (s : PM) (o a : Nat) : Option Nat :=
  if pGa s < oCost o ∨ pDe s < oTake o ∨ 6 < pDe s - oTake o + oPuts o then some 4
  else if o = 3 then (if a < pDe s then none else some 4)
  else if o = 4 then (if a + 1 < pDe s then none else some 4)
  else if o = 17 then (if (mkAt cd (pUn s 0)).isSome then none else some 4)
  else if o = 18 then (if pUn s 1 = 0 ∨ (mkAt cd (pUn s 0)).isSome then none else some 4)
  else if o = 21 then (if pUn s 0 ≠ 0 then none else some 0)
  else none
def pOver (o y x : Nat) : Bool := decide ((o = 6 ∧ 16 ≤ y + x) ∨ (o = 8 ∧ 16 ≤ y * x) ∨ (o = 7 ∧ y < x))
/-- what is found where nothing faults -/
def pLook (cal : Nat) (s : PM) (o y x : Nat) : Nat → Nat → Bool :=
  if pOver o y x = true then fup (pFo s) 1 (pAt s) else if o = 24 ∧ cal ≠ 0 then fup (pFo s) 2 (pAt s) else if o = 15 ∧ pSe s = true then fup (pFo s) 3 (pAt s) else pFo s
/-- the word that an operator puts -/
def pPut (inp cal : Nat) (s : PM) (o a y x : Nat) : Nat :=
  if o = 0 then a else if o = 1 then inp else if o = 2 then cal else if o = 3 then pUn s a
  else if o = 6 then (y + x) % 16 else if o = 7 then (y + 16 - x) % 16 else if o = 8 then (y * x) % 16
  else if o = 9 then y &&& x else if o = 10 then y ^^^ x else if o = 11 then (if y < x then 1 else 0)
  else if o = 12 then (if y = x then 1 else 0) else if o = 13 then (if x = 0 then 1 else 0)
  else if o = 14 then pCe s (x % 4) else if o = 19 then (if x ≤ pCe s 4 then 1 else 0)
  else if o = 20 then pCe s 4 else 0
/-- behind what is looked at: gas paid, words taken, one further -/
def pS1 (cal : Nat) (s : PM) (o y x : Nat) : PM := (pAt s + 1, pDe s - oTake o, pGa s - oCost o, pSt s, pCe s, pSe s, pLook cal s o y x, pHo s, pWa s)
def pSnd (s : PM) (o x : Nat) : PM := if o = 19 ∧ x ≤ pCe s 4 then (pAt s, pDe s, pGa s, pSt s, nup (pCe s) 4 (pCe s 4 - x), true, pFo s, pHo s, pWa s) else s
def pPush (s : PM) (v : Nat) : PM := (pAt s, pDe s + 1, pGa s, nup (pSt s) (pDe s) v, pCe s, pSe s, pFo s, pHo s, pWa s)
def pJmp (s : PM) (i : Nat) : PM := (i, pDe s, pGa s, pSt s, pCe s, pSe s, pFo s, pHo s, pWa s)
def pEnd (s : PM) (h : Nat) : PM := (pAt s, pDe s, pGa s, pSt s, pCe s, pSe s, pFo s, h, pWa s)
def pNote (s : PM) (f : Nat → Nat → Bool) : PM := (pAt s, pDe s, pGa s, pSt s, pCe s, pSe s, f, pHo s, pWa s)
def pCel (s : PM) (c : Nat → Nat) : PM := (pAt s, pDe s, pGa s, pSt s, c, pSe s, pFo s, pHo s, pWa s)
def pSwp (s : PM) (i j : Nat) : PM := (pAt s, pDe s, pGa s, nup (nup (pSt s) i (pSt s j)) j (pSt s i), pCe s, pSe s, pFo s, pHo s, pWa s)
def pWay (s : PM) (l : List Nat) : PM := (pAt s, pDe s, pGa s, pSt s, pCe s, pSe s, pFo s, pHo s, l)
def pAct (cd : CDE) (s : PM) (o a y x : Nat) : PM :=
  if o = 4 then pSwp s (pDe s - 1) (pDe s - 2 - a)
  else if o = 15 then pCel s (nup (pCe s) (x % 4) y)
  else if o = 17 then pJmp s ((mkAt cd x).getD 0)
  else if o = 18 then (if y ≠ 0 then pJmp s ((mkAt cd x).getD 0) else s)
  else if o = 22 then pEnd s 0
  else if o = 23 then pEnd s 1
  else if o = 24 then pEnd s 3
  else s
def pDo (cd : CDE) (inp cal : Nat) (s : PM) (o a y x : Nat) : PM :=
  if oPuts o = 1 then pPush (pSnd (pS1 cal s o y x) o x) (pPut inp cal (pS1 cal s o y x) o a y x) else pAct cd (pS1 cal s o y x) o a y x
def pPer (cd : CDE) (inp cal : Nat) (s : PM) (o a : Nat) : PM :=
  match pFault cd s o a with
  | some f => pEnd (pNote s (fup (pFo s) f (pAt s))) 2
  | none => pDo cd inp cal s o a (pUn s 1) (pUn s 0)
/-- one instruction -/
def pStep (cd : CDE) (inp cal : Nat) (s : PM) : PM := pPer cd inp cal (pWay s (pWa s ++ [pAt s])) (cd.2.1 (pAt s)) (cd.2.2 (pAt s))
/-- so many rounds; 5 goes on, behind the last instruction 0 -/
def pRun (cd : CDE) (inp cal : Nat) : Nat → PM → PM
  | 0, s => s
  | n + 1, s => if pHo s ≠ 5 then s else if cd.1 ≤ pAt s then pEnd s 0 else pRun cd inp cal n (pStep cd inp cal s)
def pBeg (lim : Nat) (cel : Nat → Nat) (how : Nat) : PM := (0, 0, lim, fun _ => 0, cel, false, fun _ _ => false, how, [])
/-- a whole transaction: the state's words where it reverts or faults are those before -/
def pTx (cd : CDE) (lim : Nat) (num : Nat) (cel : Nat → Nat) (dead : Bool) : PM :=
  let s := pRun cd (num / 4) (num % 4) 41 (pBeg (if dead = true then 0 else lim) cel (if dead = true then 4 else 5))
  if pHo s = 1 ∨ pHo s = 2 then pCel s cel else s
