/-! reading a book: tokens, a draft, and what reading does with them -/
/-- tokens: how many, and each one's kind, start and value -/
abbrev TKS : Type := Nat × (Nat → Nat) × (Nat → Nat) × (Nat → Nat)
def kdT (K : TKS) (p : Nat) : Nat := if p < K.1 then K.2.1 p else 42
def ssT (K : TKS) (p : Nat) : Nat := if p < K.1 then K.2.2.1 p else 0
def vvT (K : TKS) (p : Nat) : Nat := if p < K.1 then K.2.2.2 p else 0
/-- a draft: the book, names of labels, jars, lids, beans, lids' jars -/
abbrev DRF : Type := BK × (Nat → Nat) × (Nat → Nat) × (Nat → Nat) × (Nat → Nat → Nat) × (Nat → Nat)
abbrev dfB (d : DRF) : BK := d.1
abbrev dfL (d : DRF) : Nat → Nat := d.2.1
abbrev dfJ (d : DRF) : Nat → Nat := d.2.2.1
abbrev dfI (d : DRF) : Nat → Nat := d.2.2.2.1
abbrev dfE (d : DRF) : Nat → Nat → Nat := d.2.2.2.2.1
abbrev dfO (d : DRF) : Nat → Nat := d.2.2.2.2.2
/-- a reader: where it is, the error, the error's token, the draft -/
abbrev PST : Type := Nat × Nat × Nat × DRF
abbrev pPo (s : PST) : Nat := s.1
abbrev pEr (s : PST) : Nat := s.2.1
abbrev pEt (s : PST) : Nat := s.2.2.1
abbrev pDf (s : PST) : DRF := s.2.2.2
abbrev pBk (s : PST) : BK := s.2.2.2.1
/-- the token of now -/
def kdP (K : TKS) (s : PST) : Nat := if pEr s = 1 then 42 else kdT K (pPo s)
def vaP (K : TKS) (s : PST) : Nat := vvT K (pPo s)
def tkP (K : TKS) (w : Nat) (s : PST) : PST := if pEr s = 1 then s else if kdP K s = w then (pPo s + 1, pEr s, pEt s, pDf s) else (pPo s, 1, pPo s, pDf s)
def rpP (n : Nat) (s : PST) : PST := if pEr s = 0 then (pPo s, n, pPo s, pDf s) else s
/-- the draft changes, if there is no error -/
def upP (f : DRF → DRF) (s : PST) : PST := if pEr s = 0 then (pPo s, pEr s, pEt s, f (pDf s)) else s
def upN {T : Type} (f : Nat → T) (i : Nat) (v : T) : Nat → T := fun k => if k = i then v else f k
abbrev bSc (B : BK) : SCR := B.2.2.2.2.2.2.2.2.1
abbrev bNd (B : BK) : NOD := B.2.2.2.2.2.2.2.2.2
def scB (f : SCR) (B : BK) : BK := (bLa B, bJa B, bLi B, bSe B, bWy B, bLl B, bRu B, bRs B, f, bNd B)
def ndB (f : NOD) (B : BK) : BK := (bLa B, bJa B, bLi B, bSe B, bWy B, bLl B, bRu B, bRs B, bSc B, f)
/-- a step more -/
def stD (kd n : Nat) (d : DRF) : DRF := if cSt d.1 < 400 then (scB (cSt d.1 + 1, upN (cKd d.1) (cSt d.1) kd, upN (cNu d.1) (cSt d.1) n, cTe d.1, cTn d.1, cAe d.1) d.1, d.2) else d
/-- a node more -/
def noD (so l r : Nat) (d : DRF) : DRF := (ndB (nNo d.1 + 1, nAn d.1, upN (nSo d.1) (nNo d.1) so, upN (nLe d.1) (nNo d.1) l, upN (nRi d.1) (nNo d.1) r, nRu d.1, nAc d.1) d.1, d.2)
/-- an act more; what it is; what a rule is -/
def acD (d : DRF) : DRF := (ndB (nNo d.1, nAn d.1 + 1, nSo d.1, nLe d.1, nRi d.1, nRu d.1, nAc d.1) d.1, d.2)
def arD (k : Nat) (x : Nat × Nat × Nat × Nat) (d : DRF) : DRF := (ndB (nNo d.1, nAn d.1, nSo d.1, nLe d.1, nRi d.1, nRu d.1, upN (nAc d.1) k x) d.1, d.2)
def rrD (k : Nat) (x : Nat × Nat × Nat × Nat) (d : DRF) : DRF := (ndB (nNo d.1, nAn d.1, nSo d.1, nLe d.1, nRi d.1, upN (nRu d.1) k x, nAc d.1) d.1, d.2)
def laD (v : Nat) (d : DRF) : DRF := if bLa d.1 < 6 then ((bLa d.1 + 1, bJa d.1, bLi d.1, bSe d.1, bWy d.1, bLl d.1, bRu d.1, bRs d.1, bSc d.1, bNd d.1), upN (dfL d) (bLa d.1) v, dfJ d, dfI d, dfE d, dfO d) else d
def jaD (v : Nat) (d : DRF) : DRF := if bJa d.1 < 8 then ((bLa d.1, bJa d.1 + 1, bLi d.1, bSe d.1, bWy d.1, bLl d.1, bRu d.1, bRs d.1, bSc d.1, bNd d.1), dfL d, upN (dfJ d) (bJa d.1) v, dfI d, dfE d, dfO d) else d
def seD (v w : Nat) (d : DRF) : DRF := if 0 < bJa d.1 then ((bLa d.1, bJa d.1, bLi d.1, upN (bSe d.1) (bJa d.1 - 1) v, upN (bWy d.1) (bJa d.1 - 1) (w - 24), bLl d.1, bRu d.1, bRs d.1, bSc d.1, bNd d.1), d.2) else d
def beD (l v : Nat) (d : DRF) : DRF := if 0 < bJa d.1 ∧ l < 6 then (d.1, dfL d, dfJ d, dfI d, upN (dfE d) (bJa d.1 - 1) (upN (dfE d (bJa d.1 - 1)) l v), dfO d) else d
def liD (v j l : Nat) (d : DRF) : DRF := if bLi d.1 < 6 then ((bLa d.1, bJa d.1, bLi d.1 + 1, bSe d.1, bWy d.1, upN (bLl d.1) (bLi d.1) l, upN (bRu d.1) (bLi d.1) (bRs d.1, bRs d.1), bRs d.1, bSc d.1, bNd d.1), dfL d, dfJ d, upN (dfI d) (bLi d.1) v, dfE d, upN (dfO d) (bLi d.1) j) else d
def ruD (d : DRF) : DRF := if 0 < bLi d.1 ∧ bRs d.1 < 24 then ((bLa d.1, bJa d.1, bLi d.1, bSe d.1, bWy d.1, bLl d.1, upN (bRu d.1) (bLi d.1 - 1) ((bRu d.1 (bLi d.1 - 1)).1, bRs d.1 + 1), bRs d.1 + 1, (cSt d.1, cKd d.1, cNu d.1, upN (cTe d.1) (bRs d.1) (cSt d.1), cTn d.1, cAe d.1), bNd d.1), d.2) else d
def teD (d : DRF) : DRF := if 0 < bRs d.1 then (scB (cSt d.1, cKd d.1, cNu d.1, cTe d.1, upN (cTn d.1) (bRs d.1 - 1) (cSt d.1), cAe d.1) d.1, d.2) else d
def aeD (d : DRF) : DRF := if 0 < bRs d.1 then (scB (cSt d.1, cKd d.1, cNu d.1, cTe d.1, cTn d.1, upN (cAe d.1) (bRs d.1 - 1) (cSt d.1)) d.1, d.2) else d
def stP (kd n : Nat) (s : PST) : PST := upP (stD kd n) s
/-- the reference's sort of a kind -/
def soK (k : Nat) : Nat := [0, 1, 2, 3, 4, 5, 6, 7, 8, 9, 10, 11, 12, 13, 14, 15, 16, 17, 18, 19, 20, 21, 22, 23, 24, 25, 26, 46, 47, 48, 49, 50, 51, 43, 44, 45, 40, 41, 42, 30, 31, 33, 32].getD k 32
def noP (so l r : Nat) (s : PST) : PST := upP (noD so l r) s
/-- the first of n names that is v -/
def fnN (f : Nat → Nat) (v : Nat) : Nat → Option Nat
  | 0 => none
  | n + 1 => match fnN f v n with
    | some k => some k
    | none => if f n = v then some n else none
/-- a name of a label, of a jar, of a lid -/
def lbO (K : TKS) (s : PST) : Option Nat := fnN (dfL (pDf s)) (vaP K s) (bLa (pBk s))
def jbO (K : TKS) (s : PST) : Option Nat := fnN (dfJ (pDf s)) (vaP K s) (bJa (pBk s))
def ibO (K : TKS) (s : PST) : Option Nat := fnN (dfI (pDf s)) (vaP K s) (bLi (pBk s))
def rpO (o : Option Nat) (s : PST) : PST := if o = none then rpP 3 s else s
def laP (K : TKS) (s : PST) : PST := rpO (lbO K s) s
def jaP (K : TKS) (s : PST) : PST := rpO (jbO K s) s
/-- two values joined by a word -/
def jnP (w l r : Nat) (s : PST) : PST × Nat := (noP (soK w) l r (stP w 0 s), nNo (pBk s))
/-- x { op x } -/
def lpP (K : TKS) (op : Nat → Bool) (x : PST → PST × Nat) : Nat → PST × Nat → PST × Nat
  | 0, q => q
  | n + 1, q => if op (kdP K q.1) = true then lpP K op x n (jnP (kdP K q.1) q.2 (x (tkP K (kdP K q.1) q.1)).2 (x (tkP K (kdP K q.1) q.1)).1) else q
def opP (K : TKS) (op : Nat → Bool) (x : PST → PST × Nat) (s : PST) : PST × Nat := lpP K op x 400 (x s)
def is38 (k : Nat) : Bool := k == 38
def isPM (k : Nat) : Bool := k == 36 || k == 37
def is16 (k : Nat) : Bool := k == 16
def is17 (k : Nat) : Bool := k == 17
/-- a word, and a label behind it -/
def lkP (K : TKS) (w : Nat) (s : PST) : PST × Nat := (noP (soK w) ((lbO K (tkP K w s)).getD 0) 0 (tkP K 39 (stP w ((lbO K (tkP K w s)).getD 0) (laP K (tkP K w s)))), nNo (pBk s))
def atP (K : TKS) (sub : Option (PST → PST × Nat)) (s : PST) : PST × Nat := if kdP K s = 27 ∧ sub.isSome = true then (tkP K 28 ((sub.getD (fun z => (z, 0))) (tkP K 27 s)).1, ((sub.getD (fun z => (z, 0))) (tkP K 27 s)).2)
  else if kdP K s = 21 ∨ kdP K s = 2 then lkP K (kdP K s) s
  else if kdP K s = 20 ∨ kdP K s = 22 ∨ kdP K s = 23 then (noP (soK (kdP K s)) 0 0 (tkP K (kdP K s) (stP (kdP K s) 0 s)), nNo (pBk s))
  else (noP 31 (vaP K s) 0 (tkP K 40 (stP 40 (vaP K s) s)), nNo (pBk s))
def pdP (K : TKS) (sub : Option (PST → PST × Nat)) (s : PST) : PST × Nat := opP K is38 (atP K sub) s
def smF (K : TKS) (sub : Option (PST → PST × Nat)) (s : PST) : PST × Nat := opP K isPM (pdP K sub) s
/-- a value, so many brackets may follow -/
def smP (K : TKS) : Nat → PST → PST × Nat
  | 0, s => smF K none s
  | b + 1, s => smF K (some (smP K b)) s
/-- so many times not -/
def ntP (K : TKS) : Nat → PST → PST × Nat
  | 0, s => (s, 0)
  | n + 1, s => if kdP K s = 15 then ((ntP K n (tkP K 15 s)).1, (ntP K n (tkP K 15 s)).2 + 1) else (s, 0)
def nnP : Nat → PST × Nat → PST × Nat
  | 0, q => q
  | n + 1, q => (noP 15 (nnP n q).2 0 (nnP n q).1, nNo (pBk (nnP n q).1))
def siP (K : TKS) (kp : PST → PST × Nat) (s : PST) : PST × Nat := nnP (ntP K 400 s).2 (if (ntP K 400 s).2 % 2 = 1 then stP 15 0 (kp (ntP K 400 s).1).1 else (kp (ntP K 400 s).1).1, (kp (ntP K 400 s).1).2)
def sgW (k : Nat) : Nat := if k = 33 ∨ k = 34 then k else 35
/-- value sign value -/
def cmP (K : TKS) (sm : PST → PST × Nat) (s : PST) : PST × Nat := jnP (kdP K (sm s).1) (sm s).2 (sm (tkP K (sgW (kdP K (sm s).1)) (sm s).1)).2 (sm (tkP K (sgW (kdP K (sm s).1)) (sm s).1)).1
def kpP (K : TKS) (sub : Option (PST → PST × Nat)) (sm : PST → PST × Nat) (s : PST) : PST × Nat := if kdP K s = 29 ∧ sub.isSome = true then (tkP K 30 ((sub.getD (fun z => (z, 0))) (tkP K 29 s)).1, ((sub.getD (fun z => (z, 0))) (tkP K 29 s)).2)
  else if kdP K s = 18 ∨ kdP K s = 19 then lkP K (kdP K s) s
  else cmP K sm s
def boP (K : TKS) (sub : Option (PST → PST × Nat)) (sm : PST → PST × Nat) (s : PST) : PST × Nat := opP K is16 (siP K (kpP K sub sm)) s
def teF (K : TKS) (sub : Option (PST → PST × Nat)) (sm : PST → PST × Nat) (s : PST) : PST × Nat := opP K is17 (boP K sub sm) s
/-- a test -/
def teP (K : TKS) : Nat → PST → PST × Nat
  | 0, s => teF K none (smP K 0) s
  | b + 1, s => teF K (some (teP K b)) (smP K (b + 1)) s
/-- an act begins -/
def abP (s : PST) : PST := upP acD (if 60 ≤ nAn (pBk s) then rpP 4 s else s)
/-- an act, behind its beginning; k its number -/
def awP (K : TKS) (k : Nat) (s : PST) : PST := upP (arD k (9, (lbO K (tkP K 10 (smP K 6 (tkP K 9 s)).1)).getD 0, nNo (pBk s), (smP K 6 (tkP K 9 s)).2)) (tkP K 39 (stP 9 ((lbO K (tkP K 10 (smP K 6 (tkP K 9 s)).1)).getD 0) (laP K (tkP K 10 (smP K 6 (tkP K 9 s)).1))))
def ahP (K : TKS) (k : Nat) (s : PST) : PST := upP (arD k (11, (jbO K (tkP K 11 s)).getD 0, 0, 0)) (tkP K 39 (stP 11 ((jbO K (tkP K 11 s)).getD 0) (jaP K (tkP K 11 s))))
def ajP (K : TKS) (k : Nat) (s : PST) : PST := upP (arD k (13, (lbO K (tkP K 13 s)).getD 0, 0, 0)) (tkP K 39 (stP 13 ((lbO K (tkP K 13 s)).getD 0) (laP K (tkP K 13 s))))
def aoP (K : TKS) (w k : Nat) (s : PST) : PST := upP (arD k (w, 0, 0, 0)) (tkP K (if w = 12 then 12 else 14) (stP w 0 s))
def acP (K : TKS) (s : PST) : PST := if kdP K s = 9 then awP K (nAn (pBk s)) (abP s) else if kdP K s = 11 then ahP K (nAn (pBk s)) (abP s) else if kdP K s = 13 then ajP K (nAn (pBk s)) (abP s) else aoP K (kdP K s) (nAn (pBk s)) (abP s)
def asP (K : TKS) : Nat → PST → PST
  | 0, s => s
  | n + 1, s => if kdP K s ≠ 28 ∧ pEr s ≠ 1 then asP K n (acP K s) else s
/-- a rule: begun, tested, acted -/
def rbP (K : TKS) (s : PST) : PST := upP ruD (tkP K 8 (if 24 ≤ bRs (pBk s) then rpP 4 s else s))
def rtP (K : TKS) (s : PST) : PST := upP teD (tkP K 27 (teP K 6 s).1)
def raP (K : TKS) (s : PST) : PST := upP aeD (tkP K 28 (asP K 400 s))
def rlP (K : TKS) (s : PST) : PST := upP (rrD (bRs (pBk s)) (nNo (pBk s), (teP K 6 (rbP K s)).2, nAn (pBk (rtP K (rbP K s))), nAn (pBk (raP K (rtP K (rbP K s)))))) (raP K (rtP K (rbP K s)))
def rsP (K : TKS) : Nat → PST → PST
  | 0, s => s
  | n + 1, s => if kdP K s = 8 then rsP K n (rlP K s) else s
/-- a new name -/
def nwP (K : TKS) (full : Bool) (s : PST) : PST := if full = true then rpP 4 (if lbO K s = none ∧ jbO K s = none ∧ ibO K s = none then s else rpP 2 s) else (if lbO K s = none ∧ jbO K s = none ∧ ibO K s = none then s else rpP 2 s)
def nlP (K : TKS) (s : PST) : PST := nwP K (decide (6 ≤ bLa (pBk (tkP K 0 s)))) (tkP K 0 s)
def llP (K : TKS) (s : PST) : PST := tkP K 39 (upP (laD (vaP K (nlP K s))) (nlP K s))
/-- a number of beans -/
def hoP (K : TKS) (l : Nat) (s : PST) : PST := tkP K 40 (upP (beD l (vaP K s)) (if nI 200 < nI (vaP K s) ∨ bLa (pBk s) ≤ l then rpP 5 s else s))
def hsP (K : TKS) : Nat → Nat → PST → PST
  | 0, _, s => s
  | n + 1, l, s => if kdP K s = 32 then hsP K n (l + 1) (hoP K l (tkP K 32 s)) else s
def wyW (k : Nat) : Nat := if k = 24 ∨ k = 25 then k else 26
/-- a jar's line: its name; its seats; its way; its beans -/
def njP (K : TKS) (s : PST) : PST := nwP K (decide (8 ≤ bJa (pBk (tkP K 1 s)))) (tkP K 1 s)
def j1P (K : TKS) (s : PST) : PST := tkP K 2 (tkP K 39 (upP (jaD (vaP K (njP K s))) (njP K s)))
def j2P (K : TKS) (s : PST) : PST := tkP K 3 (tkP K 40 (if nI (vaP K s) < nI 1 ∨ nI 9 < nI (vaP K s) then rpP 5 s else s))
def j3P (K : TKS) (v : Nat) (s : PST) : PST := tkP K 4 (upP (seD v (kdP K s)) (tkP K (wyW (kdP K s)) s))
def jlP (K : TKS) (s : PST) : PST := hsP K 399 1 (hoP K 0 (j3P K (vaP K (j1P K s)) (j2P K (j1P K s))))
/-- a lid's line: its name; its jar; its label -/
def niP (K : TKS) (s : PST) : PST := nwP K (decide (6 ≤ bLi (pBk (tkP K 5 s)))) (tkP K 5 s)
def i1P (K : TKS) (s : PST) : PST := tkP K 6 (tkP K 39 (niP K s))
def i2P (K : TKS) (s : PST) : PST := tkP K 7 (tkP K 39 (jaP K s))
def i3P (K : TKS) (s : PST) : PST := tkP K 39 (laP K s)
def i4P (K : TKS) (s : PST) : PST := upP (liD (vaP K (niP K s)) ((jbO K (i1P K s)).getD 0) ((lbO K (i2P K (i1P K s))).getD 0)) (i3P K (i2P K (i1P K s)))
def ilP (K : TKS) (s : PST) : PST := rsP K 400 (i4P K s)
def lnP (K : TKS) (s : PST) : PST := if kdP K s = 0 then llP K s else if kdP K s = 1 then jlP K s else ilP K s
def lsP (K : TKS) : Nat → PST → PST
  | 0, s => s
  | n + 1, s => if kdP K s ≠ 41 ∧ pEr s ≠ 1 then lsP K n (tkP K 31 (lnP K s)) else s

