/-! The mathematical host: processes, queue, code; what each operation does to it. -/
/-- a process: registers, place, returns, messages, mark, links, traps, state, reason, reductions -/
abbrev Pr : Type := (Nat → Tm) × Nat × List Nat × List Tm × Nat × Int32 × Bool × Nat × Option Tm × Int32
abbrev pRg (P : Pr) : Nat → Tm := P.1
abbrev pPl (P : Pr) : Nat := P.2.1
abbrev pRe (P : Pr) : List Nat := P.2.2.1
abbrev pMs (P : Pr) : List Tm := P.2.2.2.1
abbrev pMk (P : Pr) : Nat := P.2.2.2.2.1
abbrev pLk (P : Pr) : Int32 := P.2.2.2.2.2.1
abbrev pTr (P : Pr) : Bool := P.2.2.2.2.2.2.1
abbrev pSt (P : Pr) : Nat := P.2.2.2.2.2.2.2.1
abbrev pRs (P : Pr) : Option Tm := P.2.2.2.2.2.2.2.2.1
abbrev pDn (P : Pr) : Int32 := P.2.2.2.2.2.2.2.2.2
abbrev sRg (P : Pr) (k : Nat) (t : Tm) : Pr := (va_up P.1 k t, P.2)
abbrev sPl (P : Pr) (l : Nat) : Pr := (P.1, l, P.2.2)
abbrev sRe (P : Pr) (l : List Nat) : Pr := (P.1, P.2.1, l, P.2.2.2)
abbrev sMs (P : Pr) (l : List Tm) : Pr := (P.1, P.2.1, P.2.2.1, l, P.2.2.2.2)
abbrev sMk (P : Pr) (m : Nat) : Pr := (P.1, P.2.1, P.2.2.1, P.2.2.2.1, m, P.2.2.2.2.2)
abbrev sLk (P : Pr) (x : Int32) : Pr := (P.1, P.2.1, P.2.2.1, P.2.2.2.1, P.2.2.2.2.1, x, P.2.2.2.2.2.2)
abbrev sTr (P : Pr) (b : Bool) : Pr := (P.1, P.2.1, P.2.2.1, P.2.2.2.1, P.2.2.2.2.1, P.2.2.2.2.2.1, b, P.2.2.2.2.2.2.2)
abbrev sSt (P : Pr) (n : Nat) : Pr := (P.1, P.2.1, P.2.2.1, P.2.2.2.1, P.2.2.2.2.1, P.2.2.2.2.2.1, P.2.2.2.2.2.2.1, n, P.2.2.2.2.2.2.2.2)
abbrev sRs (P : Pr) (r : Option Tm) : Pr := (P.1, P.2.1, P.2.2.1, P.2.2.2.1, P.2.2.2.2.1, P.2.2.2.2.2.1, P.2.2.2.2.2.2.1, P.2.2.2.2.2.2.2.1, r, P.2.2.2.2.2.2.2.2.2)
abbrev sDn (P : Pr) (x : Int32) : Pr := (P.1, P.2.1, P.2.2.1, P.2.2.2.1, P.2.2.2.2.1, P.2.2.2.2.2.1, P.2.2.2.2.2.2.1, P.2.2.2.2.2.2.2.1, P.2.2.2.2.2.2.2.2.1, x)
/-- the host: quota, spent, code, queue, how many processes, the processes -/
abbrev Ho : Type := Int32 × Nat × List (Nat × Int32 × Int32 × Int32) × List Nat × Nat × (Nat → Pr)
abbrev oQt (σ : Ho) : Int32 := σ.1
abbrev oSp (σ : Ho) : Nat := σ.2.1
abbrev oCd (σ : Ho) : List (Nat × Int32 × Int32 × Int32) := σ.2.2.1
abbrev oQu (σ : Ho) : List Nat := σ.2.2.2.1
abbrev oCt (σ : Ho) : Nat := σ.2.2.2.2.1
abbrev oPr (σ : Ho) : Nat → Pr := σ.2.2.2.2.2
abbrev sSp (σ : Ho) (n : Nat) : Ho := (σ.1, n, σ.2.2)
abbrev sCd (σ : Ho) (l : List (Nat × Int32 × Int32 × Int32)) : Ho := (σ.1, σ.2.1, l, σ.2.2.2)
abbrev sQu (σ : Ho) (l : List Nat) : Ho := (σ.1, σ.2.1, σ.2.2.1, l, σ.2.2.2.2)
abbrev sCt (σ : Ho) (n : Nat) : Ho := (σ.1, σ.2.1, σ.2.2.1, σ.2.2.2.1, n, σ.2.2.2.2.2)
abbrev sPr (σ : Ho) (p : Nat) (P : Pr) : Ho := (σ.1, σ.2.1, σ.2.2.1, σ.2.2.2.1, σ.2.2.2.2.1, va_up σ.2.2.2.2.2 p P)
def leaveM (σ : Ho) (p : Nat) : Ho := sQu σ ((oQu σ).filter (fun x => x ≠ p))
def comeM (σ : Ho) (p : Nat) : Ho := sQu σ (oQu σ ++ [p])
/-- a message comes -/
def deliverM (σ : Ho) (q : Nat) (t : Tm) : Ho :=
  if pSt (oPr σ q) = 3 ∨ 12 ≤ (pMs (oPr σ q)).length then σ
  else if pSt (oPr σ q) = 2 then comeM (sPr σ q (sSt (sMs (oPr σ q) (pMs (oPr σ q) ++ [t])) 1)) q
  else sPr σ q (sMs (oPr σ q) (pMs (oPr σ q) ++ [t]))
def bitM (q : Nat) : Int32 := 1 <<< (nI q &&& 31)
def linkedM (σ : Ho) (p q : Nat) : Prop := ¬ pLk (oPr σ p) &&& bitM q = 0
def tieM (σ : Ho) (p q : Nat) : Ho :=
  let σ1 := sPr σ p (sLk (oPr σ p) (pLk (oPr σ p) ||| bitM q))
  sPr σ1 q (sLk (oPr σ1 q) (pLk (oPr σ1 q) ||| bitM p))
def untieM (σ : Ho) (p q : Nat) : Ho :=
  let σ1 := sPr σ p (sLk (oPr σ p) (pLk (oPr σ p) &&& (bitM q ^^^ -1)))
  sPr σ1 q (sLk (oPr σ1 q) (pLk (oPr σ1 q) &&& (bitM p ^^^ -1)))
def aNormal : Tm := .leaf (1, 14)
def aFault : Tm := .leaf (1, 13)
def aKilled : Tm := .leaf (1, 12)
def aExit : Tm := .leaf (1, 15)
def nilT : Tm := .leaf (3, 0)
/-- what a process that traps is told -/
def noticeM (p : Nat) (r : Tm) : Tm := .branch 5 aExit (.branch 5 (.leaf (2, nI p)) (if 15 < tW r + 4 then aFault else r))
/-- it stops: state, reason, queue -/
def stopM (σ : Ho) (p : Nat) (r : Tm) : Ho := leaveM (sPr σ p (sRs (sSt (oPr σ p) 3) (some r))) p
