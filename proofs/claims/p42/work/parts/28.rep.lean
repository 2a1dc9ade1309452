/-! WHAT LIES WHERE: the class's and the reference's cells, over one abstract state -/
/-- what days change: the day, beans of a label in a jar, each lid's jar, whom each label follows -/
abbrev DY : Type := Int32 × (Nat → Nat → Nat) × (Nat → Nat) × (Nat → Option Nat)
abbrev dDay (D : DY) : Int32 := D.1
abbrev dB (D : DY) : Nat → Nat → Nat := D.2.1
abbrev dL (D : DY) : Nat → Nat := D.2.2.1
abbrev dF (D : DY) : Nat → Option Nat := D.2.2.2
/-- the class's script: steps; a step's kind and number; a rule's tests, where they end, where its acts end -/
abbrev SCR : Type := Nat × (Nat → Nat) × (Nat → Nat) × (Nat → Nat) × (Nat → Nat) × (Nat → Nat)
/-- the reference's nodes: how many nodes and acts; sort, left, right; a rule's first node, its last, its first act, the one behind; an act's word, whom, its sum's first node and last -/
abbrev NOD : Type := Nat × Nat × (Nat → Nat) × (Nat → Nat) × (Nat → Nat) × (Nat → Nat × Nat × Nat × Nat) × (Nat → Nat × Nat × Nat × Nat)
/-- a book: labels, jars, lids; a jar's seats and way; a lid's label and its rules; how many rules; the script and the nodes -/
abbrev BK : Type := Nat × Nat × Nat × (Nat → Nat) × (Nat → Nat) × (Nat → Nat) × (Nat → Nat × Nat) × Nat × SCR × NOD
abbrev bLa (B : BK) : Nat := B.1
abbrev bJa (B : BK) : Nat := B.2.1
abbrev bLi (B : BK) : Nat := B.2.2.1
abbrev bSe (B : BK) : Nat → Nat := B.2.2.2.1
abbrev bWy (B : BK) : Nat → Nat := B.2.2.2.2.1
abbrev bLl (B : BK) : Nat → Nat := B.2.2.2.2.2.1
abbrev bRu (B : BK) : Nat → Nat × Nat := B.2.2.2.2.2.2.1
abbrev bRs (B : BK) : Nat := B.2.2.2.2.2.2.2.1
abbrev cSt (B : BK) : Nat := B.2.2.2.2.2.2.2.2.1.1
abbrev cKd (B : BK) : Nat → Nat := B.2.2.2.2.2.2.2.2.1.2.1
abbrev cNu (B : BK) : Nat → Nat := B.2.2.2.2.2.2.2.2.1.2.2.1
abbrev cTe (B : BK) : Nat → Nat := B.2.2.2.2.2.2.2.2.1.2.2.2.1
abbrev cTn (B : BK) : Nat → Nat := B.2.2.2.2.2.2.2.2.1.2.2.2.2.1
abbrev cAe (B : BK) : Nat → Nat := B.2.2.2.2.2.2.2.2.1.2.2.2.2.2
abbrev nNo (B : BK) : Nat := B.2.2.2.2.2.2.2.2.2.1
abbrev nAn (B : BK) : Nat := B.2.2.2.2.2.2.2.2.2.2.1
abbrev nSo (B : BK) : Nat → Nat := B.2.2.2.2.2.2.2.2.2.2.2.1
abbrev nLe (B : BK) : Nat → Nat := B.2.2.2.2.2.2.2.2.2.2.2.2.1
abbrev nRi (B : BK) : Nat → Nat := B.2.2.2.2.2.2.2.2.2.2.2.2.2.1
abbrev nRu (B : BK) : Nat → Nat × Nat × Nat × Nat := B.2.2.2.2.2.2.2.2.2.2.2.2.2.2.1
abbrev nAc (B : BK) : Nat → Nat × Nat × Nat × Nat := B.2.2.2.2.2.2.2.2.2.2.2.2.2.2.2
abbrev rTf (B : BK) (r : Nat) : Nat := (nRu B r).1
abbrev rTe (B : BK) (r : Nat) : Nat := (nRu B r).2.1
abbrev rFa (B : BK) (r : Nat) : Nat := (nRu B r).2.2.1
abbrev rBa (B : BK) (r : Nat) : Nat := (nRu B r).2.2.2
abbrev aDo (B : BK) (k : Nat) : Nat := (nAc B k).1
abbrev aWh (B : BK) (k : Nat) : Nat := (nAc B k).2.1
abbrev aSf (B : BK) (k : Nat) : Nat := (nAc B k).2.2.1
abbrev aSu (B : BK) (k : Nat) : Nat := (nAc B k).2.2.2
/-- seats that the alliance of label k0 wins in jar i -/
def sw (B : BK) (D : DY) (k0 i : Nat) : Nat := wo (po (rt (dF D)) (dB D i)) (su (dB D i) 6) (bSe B i) (bWy B i) (rt (dF D) k0)
/-- so many go -/
def mvN (w : Int32) (b : Nat) : Nat := min w.toInt.toNat b
def m1B (b : Nat → Nat) (f v : Nat) : Nat → Nat := fun k => if k = f then b f - v else b k
/-- v beans of f go to t -/
def mvB (b : Nat → Nat) (f t v : Nat) : Nat → Nat := fun k => if k = t then m1B b f v t + v else m1B b f v k
/-- beans of one jar are others -/
def jrB (D : DY) (i : Nat) (b' : Nat → Nat) : DY := (dDay D, fun z => if z = i then b' else dB D z, dL D, dF D)
/-- whose beans come to k -/
def prL (la k : Nat) : Nat := if k = 0 then la - 1 else k - 1
def stB (b : Nat → Nat) (la : Nat) : Nat → Nat := fun k => if k < la then b k + b (prL la k) / 10 - b k / 10 else b k
/-- n links on -/
def itn (F : Nat → Option Nat) : Nat → Nat → Option Nat
  | 0, k => some k
  | n + 1, k => match F k with
    | none => none
    | some j => itn F n j
/-- the chain of k comes to l -/
def thr (F : Nat → Option Nat) (l k : Nat) : Prop := ∃ n, itn F n k = some l
/-- .. within six links -/
def thB (F : Nat → Option Nat) (l k : Nat) : Bool := (List.range 7).any (fun n => itn F n k == some l)
/-- label l follows another one, or none -/
def fwF (F : Nat → Option Nat) (l : Nat) (t : Option Nat) : Nat → Option Nat := fun k => if k = l then t else F k
/-- whom a label follows is another one -/
def fwD (D : DY) (l : Nat) (t : Option Nat) : DY := (dDay D, dB D, dL D, fwF (dF D) l t)
/-- lid i lies on jar n -/
def hoD (D : DY) (i n : Nat) : DY := (dDay D, dB D, fun q => if q = i then n else dL D q, dF D)
/-- one day more -/
def dyD (D : DY) : DY := (dDay D + nI 1, dB D, dL D, dF D)
def isLk (kd : Nat) : Bool := kd == 2 || kd == 18 || kd == 19 || kd == 20 || kd == 21 || kd == 22 || kd == 23
/-- what a look of lid i tells: kinds by their ordinals, 20 day, 21 beans, 2 seats, 22 margin, 23 turnout, 18 first, 19 allied -/
def lkV (B : BK) (D : DY) (i kd n : Nat) : Int32 := if kd = 20 then dDay D else if kd = 21 then nI (dB D (dL D i) n) else if kd = 2 then nI (su (sw B D n) 8) else if kd = 22 then nI (mar (po (rt (dF D)) (dB D (dL D i)))) else if kd = 23 then nI (su (dB D (dL D i)) 6) else if kd = 18 then (if fiN (po (rt (dF D)) (dB D (dL D i))) 6 = some (rt (dF D) n) then nI 1 else nI 0) else (if rt (dF D) (bLl B i) = rt (dF D) n then nI 1 else nI 0)
def isJn (kd : Nat) : Bool := kd == 16 || kd == 17 || kd == 33 || kd == 34 || kd == 35 || kd == 36 || kd == 37 || kd == 38
/-- two values joined, in the class's kinds -/
def jnV (kd : Nat) (a b : Int32) : Int32 := if kd = 36 then a + b else if kd = 37 then a - b else if kd = 38 then a * b else if kd = 33 then (if a < b then nI 1 else nI 0) else if kd = 34 then (if b < a then nI 1 else nI 0) else if kd = 35 then (if a = b then nI 1 else nI 0) else if kd = 16 then a &&& b else a ||| b
/-- a step of a test or a sum, on a stack -/
def stV (B : BK) (D : DY) (i kd n : Nat) (S : List Int32) : Option (List Int32) := if kd = 15 then (match S with
    | x :: s => some ((if x = 0 then nI 1 else nI 0) :: s)
    | [] => none) else if kd = 40 then some (nI n :: S) else if isLk kd = true then some (lkV B D i kd n :: S) else if isJn kd = true then (match S with
    | b :: a :: s => some (jnV kd a b :: s)
    | _ => none) else none
/-- m steps from a on -/
def rnV (B : BK) (D : DY) (i : Nat) : Nat → Nat → List Int32 → Option (List Int32)
  | _, 0, S => some S
  | a, m + 1, S => match stV B D i (cKd B a) (cNu B a) S with
    | none => none
    | some S' => rnV B D i (a + 1) m S'
def isAc (kd : Nat) : Bool := kd == 9 || kd == 11 || kd == 12 || kd == 13 || kd == 14
/-- what an act of lid i does: 9 win, 11 hop, 12 shake, 13 join, else leave -/
def doV (B : BK) (i kd n : Nat) (x : Int32) (D : DY) : DY := if kd = 9 then jrB D (dL D i) (mvB (dB D (dL D i)) n (bLl B i) (mvN x (dB D (dL D i) n))) else if kd = 11 then hoD D i n else if kd = 12 then jrB D (dL D i) (stB (dB D (dL D i)) (bLa B)) else if kd = 13 then (if thB (dF D) (bLl B i) n = true then D else fwD D (bLl B i) (some n)) else fwD D (bLl B i) none
/-- a step among acts -/
def acV (B : BK) (i kd n : Nat) (D : DY) (S : List Int32) : Option (DY × List Int32) := if isAc kd = true then (if kd = 9 then (match S with
    | x :: s => some (doV B i kd n x D, s)
    | [] => none) else some (doV B i kd n 0 D, S)) else match stV B D i kd n S with
    | none => none
    | some S' => some (D, S')
def raV (B : BK) (i : Nat) : Nat → Nat → DY → List Int32 → Option (DY × List Int32)
  | _, 0, D, S => some (D, S)
  | a, m + 1, D, S => match acV B i (cKd B a) (cNu B a) D S with
    | none => none
    | some q => raV B i (a + 1) m q.1 q.2
/-- how many acts -/
def acC (B : BK) : Nat → Nat → Nat
  | _, 0 => 0
  | a, m + 1 => (if isAc (cKd B a) = true then 1 else 0) + acC B (a + 1) m
/-- two values joined, in the reference's sorts -/
def jnM (so : Nat) (a b : Int32) : Int32 := if so = 40 then a + b else if so = 41 then a - b else if so = 42 then a * b else if so = 16 then a &&& b else if so = 17 then a ||| b else if so = 43 then (if a < b then nI 1 else nI 0) else if so = 44 then (if b < a then nI 1 else nI 0) else (if a = b then nI 1 else nI 0)
def ndV (B : BK) (D : DY) (i so le ri : Nat) (v : Nat → Int32) : Int32 := if so = 31 then nI le else if isLk so = true then lkV B D i so le else if so = 15 then nI 1 - v le else jnM so (v le) (v ri)
/-- values of m nodes from f on -/
def evN (B : BK) (D : DY) (i f : Nat) : Nat → (Nat → Int32) → Nat → Int32
  | 0, v => v
  | m + 1, v => upd (evN B D i f m v) (f + m) (ndV B D i (nSo B (f + m)) (nLe B (f + m)) (nRi B (f + m)) (evN B D i f m v))
/-- m acts of the reference from k on -/
def rdA (B : BK) (i k : Nat) (q : DY × (Nat → Int32)) : DY × (Nat → Int32) := if aDo B k = 9 then (doV B i 9 (aWh B k) (evN B q.1 i (aSf B k) (aSu B k + 1 - aSf B k) q.2 (aSu B k)) q.1, evN B q.1 i (aSf B k) (aSu B k + 1 - aSf B k) q.2) else (doV B i (aDo B k) (aWh B k) 0 q.1, q.2)
def rdV (B : BK) (i : Nat) : Nat → Nat → DY × (Nat → Int32) → DY × (Nat → Int32)
  | _, 0, q => q
  | k, m + 1, q => rdV B i (k + 1) m (rdA B i k q)
def okS (B : BK) (kd n : Nat) : Prop := kd < 43 ∧ n < 10000 ∧ ((kd = 21 ∨ kd = 2 ∨ kd = 18 ∨ kd = 19 ∨ kd = 9 ∨ kd = 13) → n < bLa B) ∧ (kd = 11 → n < bJa B)
def okN (B : BK) (so le ri : Nat) : Prop := so < 60 ∧ le < 10000 ∧ ((so = 21 ∨ so = 2 ∨ so = 18 ∨ so = 19) → le < bLa B) ∧ (so ≠ 31 → isLk so = false → le < 800 ∧ ri < 800)
def okA (B : BK) (k : Nat) : Prop := isAc (aDo B k) = true ∧ ((aDo B k = 9 ∨ aDo B k = 13) → aWh B k < bLa B) ∧ (aDo B k = 11 → aWh B k < bJa B) ∧ aWh B k < 10000 ∧ (aDo B k = 9 → aSf B k ≤ aSu B k ∧ aSu B k < nNo B)
/-- script and nodes are well made -/
def WFs (B : BK) : Prop := cSt B ≤ 400 ∧ bRs B ≤ 24 ∧ nNo B ≤ 800 ∧ nAn B ≤ 60 ∧ (∀ k, k < cSt B → okS B (cKd B k) (cNu B k)) ∧ (∀ k, k < nNo B → okN B (nSo B k) (nLe B k) (nRi B k)) ∧ (∀ i, i < bLi B → (bRu B i).1 ≤ (bRu B i).2 ∧ (bRu B i).2 ≤ bRs B) ∧ ∀ r, r < bRs B → (cTe B r ≤ cTn B r ∧ cTn B r ≤ cAe B r ∧ cAe B r ≤ cSt B) ∧ (rTf B r ≤ rTe B r ∧ rTe B r < nNo B) ∧ (rFa B r ≤ rBa B r ∧ rBa B r ≤ nAn B) ∧ ∀ k, rFa B r ≤ k → k < rBa B r → okA B k
/-- what is always so of the two -/
def BD9 (B : BK) (D : DY) : Prop := bLa B ≤ 6 ∧ bJa B ≤ 8 ∧ bLi B ≤ 6 ∧ (∀ i, i < 8 → bSe B i ≤ 9 ∧ bWy B i < 3) ∧ (∀ i, bJa B ≤ i → i < 8 → bSe B i = 0 ∧ ∀ k, k < 6 → dB D i k = 0) ∧ (∀ i k, i < 8 → bLa B ≤ k → k < 6 → dB D i k = 0) ∧ (∀ i, i < 8 → su (dB D i) 6 ≤ 1200) ∧
  (∀ i, i < bLi B → bLl B i < bLa B ∧ dL D i < bJa B) ∧ (∀ k j, k < 6 → dF D k = some j → k < bLa B ∧ j < bLa B) ∧ (∀ k, k < 6 → dF D (rt (dF D) k) = none)
/-- script and nodes come to the same -/
def BSok (B : BK) : Prop := WFs B ∧ ∀ (i : Nat) (D : DY), i < bLi B → BD9 B D → ∀ r, (bRu B i).1 ≤ r → r < (bRu B i).2 → (∃ x : Int32, (x = nI 0 ∨ x = nI 1) ∧ rnV B D i (cTe B r) (cTn B r - cTe B r) [] = some [x] ∧ ∀ v, evN B D i (rTf B r) (rTe B r + 1 - rTf B r) v (rTe B r) = x) ∧ ∃ D', raV B i (cTn B r) (cAe B r - cTn B r) D [] = some (D', []) ∧ acC B (cTn B r) (cAe B r - cTn B r) = rBa B r - rFa B r ∧ ∀ v, (rdV B i (rFa B r) (rBa B r - rFa B r) (D, v)).1 = D'
def BDok (B : BK) (D : DY) : Prop := bLa B ≤ 6 ∧ bJa B ≤ 8 ∧ bLi B ≤ 6 ∧ (∀ i, i < 8 → bSe B i ≤ 9 ∧ bWy B i < 3) ∧ (∀ i, bJa B ≤ i → i < 8 → bSe B i = 0 ∧ ∀ k, k < 6 → dB D i k = 0) ∧ (∀ i k, i < 8 → bLa B ≤ k → k < 6 → dB D i k = 0) ∧ (∀ i, i < 8 → su (dB D i) 6 ≤ 1200) ∧
  (∀ i, i < bLi B → bLl B i < bLa B ∧ dL D i < bJa B) ∧ (∀ k j, k < 6 → dF D k = some j → k < bLa B ∧ j < bLa B) ∧ (∀ k, k < 6 → dF D (rt (dF D) k) = none) ∧ BSok B
theorem BDok.nine {B : BK} {D : DY} (hb : BDok B D) : BD9 B D := by
  obtain ⟨a1, a2, a3, a4, a5, a6, a7, a8, a9, a10, -⟩ := hb
  exact ⟨a1, a2, a3, a4, a5, a6, a7, a8, a9, a10⟩
theorem BDok.bs {B : BK} {D : DY} (hb : BDok B D) : BSok B := hb.2.2.2.2.2.2.2.2.2.2
theorem BD9.ok {B : BK} {D : DY} (hb : BD9 B D) (b : BSok B) : BDok B D := by
  obtain ⟨a1, a2, a3, a4, a5, a6, a7, a8, a9, a10⟩ := hb
  exact ⟨a1, a2, a3, a4, a5, a6, a7, a8, a9, a10, b⟩
/-- what a jar has counted -/
def Cnt (r b : Nat → Nat) (se wy : Nat) (p w : Nat → Int32) (tu fi ma : Int32) : Prop := (∀ k, k < 6 → p k = nI (po r b k)) ∧ (∀ k, k < 6 → w k = nI (wo (po r b) (su b 6) se wy k)) ∧ tu = nI (su b 6) ∧ fi = oI (fiN (po r b) 6) ∧ ma = nI (mar (po r b))
def JaR (h : AH) (j : Nat) (b : Nat → Nat) (se wy : Nat) (r : Nat → Nat) : Prop := ∃ bf p w l tu fi ma co, JarC h j bf p w l (nI se) (24 + wy) tu fi ma co ∧ (∀ k, k < 6 → bf k = nI (b k)) ∧ (co = nI 0 ∨ (co = nI 1 ∧ Cnt r b se wy p w tu fi ma))
theorem JaR.keep {h h' : AH} {j se wy : Nat} {b r : Nat → Nat} (a : JaR h j b se wy r) (e : h.1 ≤ h'.1) (u : Un h h' j (j + 5)) : JaR h' j b se wy r := by
  obtain ⟨bf, p, w, l, tu, fi, ma, co, a1, a2⟩ := a
  exact ⟨bf, p, w, l, tu, fi, ma, co, a1.keep e u, a2⟩
/-- a cupboard -/
def CuR (h : AH) (c : Nat) (B : BK) (D : DY) : Prop := ∃ (jf : Nat → Option Nat) (lj fo le : Nat → Int32), At h c (.inr (2, [.ref (c + 1), .ref (c + 2), .ref (c + 3), .ref (c + 4), .int (dDay D)])) ∧ At h (c + 1) (.inl (3, 8, .inr (.inr (.inr (.inr jf))))) ∧ At h (c + 2) (.inl (0, 6, .inl lj)) ∧ At h (c + 3) (.inl (0, 6, .inl fo)) ∧ At h (c + 4) (.inl (0, 6, .inl le)) ∧ (∀ i, i < 8 → jf i = some (c + 5 + 5 * i)) ∧ (∀ i, i < 6 → lj i = nI (dL D i)) ∧ (∀ i, i < 6 → fo i = oI (dF D i)) ∧ (∀ i, i < 6 → le i = nI (rt (dF D) i)) ∧ ∀ i, i < 8 → JaR h (c + 5 + 5 * i) (dB D i) (bSe B i) (bWy B i) (rt (dF D))
theorem CuR.keep {h h' : AH} {c : Nat} {B : BK} {D : DY} (a : CuR h c B D) (e : h.1 ≤ h'.1) (u : Un h h' c (c + 45)) : CuR h' c B D := by
  obtain ⟨jf, lj, fo, le, a1, a2, a3, a4, a5, a6, a7, a8, a9, a10⟩ := a
  exact ⟨jf, lj, fo, le, a1.keep e (u _ (by omega) (by omega)), a2.keep e (u _ (by omega) (by omega)), a3.keep e (u _ (by omega) (by omega)), a4.keep e (u _ (by omega) (by omega)), a5.keep e (u _ (by omega) (by omega)), a6, a7, a8, a9, fun i hi => (a10 i hi).keep e (u.sub (by omega) (by omega))⟩
def BooO (b : Nat) (la ja li : Int32) : AC := .inr (0, [.ref (b + 1), .ref (b + 2), .ref (b + 3), .ref (b + 4), .ref (b + 5), .ref (b + 6), .ref (b + 7), .ref (b + 52), .int la, .int ja, .int li])
/-- the script's cells -/
def ScrR (h : AH) (b : Nat) (B : BK) : Prop := (∃ st ru ac : Int32, At h b (.inr (5, [.ref (b + 1), .ref (b + 2), .ref (b + 3), .ref (b + 4), .ref (b + 5), .int st, .int ru, .int ac])) ∧ (0 < bRs B → st = nI (cSt B))) ∧ (∃ f : Nat → Option Nat, At h (b + 1) (.inl (4, 400, .inr (.inr (.inr (.inr f))))) ∧ ∀ k, k < cSt B → f k = some (OLD + cKd B k)) ∧ (∃ f : Nat → Int32, At h (b + 2) (.inl (0, 400, .inl f)) ∧ ∀ k, k < cSt B → f k = nI (cNu B k)) ∧ (∃ f : Nat → Int32, At h (b + 3) (.inl (0, 24, .inl f)) ∧ ∀ r, r < bRs B → f r = nI (cTe B r)) ∧ (∃ f : Nat → Int32, At h (b + 4) (.inl (0, 24, .inl f)) ∧ ∀ r, r < bRs B → f r = nI (cTn B r)) ∧ ∃ f : Nat → Int32, At h (b + 5) (.inl (0, 24, .inl f)) ∧ ∀ r, r < bRs B → f r = nI (cAe B r)
theorem ScrR.keep {h h' : AH} {b : Nat} {B : BK} (q : ScrR h b B) (e : h.1 ≤ h'.1) (u : Un h h' b (b + 6)) : ScrR h' b B := by
  obtain ⟨⟨st, ru, ac, a0, c0⟩, ⟨f1, a1, c1⟩, ⟨f2, a2, c2⟩, ⟨f3, a3, c3⟩, ⟨f4, a4, c4⟩, ⟨f5, a5, c5⟩⟩ := q
  exact ⟨⟨st, ru, ac, a0.keep e (u _ (by omega) (by omega)), c0⟩, ⟨f1, a1.keep e (u _ (by omega) (by omega)), c1⟩, ⟨f2, a2.keep e (u _ (by omega) (by omega)), c2⟩, ⟨f3, a3.keep e (u _ (by omega) (by omega)), c3⟩, ⟨f4, a4.keep e (u _ (by omega) (by omega)), c4⟩, ⟨f5, a5.keep e (u _ (by omega) (by omega)), c5⟩⟩
/-- the book that is told -/
def BoR (h : AH) (b : Nat) (B : BK) : Prop := At h b (BooO b (nI (bLa B)) (nI (bJa B)) (nI (bLi B))) ∧ ArJ h (b + 1) 6 ∧ ArJ h (b + 2) 8 ∧ ArJ h (b + 3) 6 ∧ (∃ f : Nat → Int32, At h (b + 4) (.inl (0, 6, .inl f)) ∧ ∀ i, i < bLi B → f i = nI (bLl B i)) ∧ (∃ f : Nat → Int32, At h (b + 5) (.inl (0, 6, .inl f)) ∧ ∀ i, i < bLi B → f i = nI (bRu B i).1) ∧ (∃ f : Nat → Int32, At h (b + 6) (.inl (0, 6, .inl f)) ∧ ∀ i, i < bLi B → f i = nI (bRu B i).2) ∧ CupS h (b + 7) ∧ ScrR h (b + 52) B
theorem BoR.room {h : AH} {b : Nat} {B : BK} (q : BoR h b B) : b + 58 ≤ h.1 := by
  obtain ⟨-, -, -, -, -, -, -, -, -, -, -, -, -, ⟨f, a, -⟩⟩ := q
  have := a.1
  omega
theorem BoR.keep {h h' : AH} {b : Nat} {B : BK} (q : BoR h b B) (e : h.1 ≤ h'.1) (u : Un h h' b (b + 58)) : BoR h' b B := by
  obtain ⟨a1, a2, a3, a4, ⟨f5, a5, c5⟩, ⟨f6, a6, c6⟩, ⟨f7, a7, c7⟩, a8, a9⟩ := q
  exact ⟨a1.keep e (u _ (by omega) (by omega)), a2.keep e (u _ (by omega) (by omega)), a3.keep e (u _ (by omega) (by omega)), a4.keep e (u _ (by omega) (by omega)), ⟨f5, a5.keep e (u _ (by omega) (by omega)), c5⟩, ⟨f6, a6.keep e (u _ (by omega) (by omega)), c6⟩, ⟨f7, a7.keep e (u _ (by omega) (by omega)), c7⟩, a8.keep e (u.sub (by omega) (by omega)), a9.keep e (u.sub (by omega) (by omega))⟩
/-- the tape: its bytes as they lie in a Java byte array -/
def TaR (h : AH) (t : Nat) (T : List Nat) : Prop := At h t (.inr (6, [.ref (t + 1), .int (nI T.length)])) ∧ T.length ≤ 1600 ∧ ∃ f : Nat → Int32, At h (t + 1) (.inl (1, 1600, .inl f)) ∧ ∀ i, i < T.length → f i = (nI (T.getD i 0)).toInt8.toInt32 ∧ T.getD i 0 < 256
theorem TaR.keep {h h' : AH} {t : Nat} {T : List Nat} (q : TaR h t T) (e : h.1 ≤ h'.1) (u : Un h h' t (t + 2)) : TaR h' t T := by
  obtain ⟨a1, a2, f, a3, a4⟩ := q
  exact ⟨a1.keep e (u _ (by omega) (by omega)), a2, f, a3.keep e (u _ (by omega) (by omega)), a4⟩
/-- all that a run has come to: the tape, the latest error's place, the book, what days change -/
abbrev ST : Type := List Nat × Int32 × BK × DY
/-- the class's object at x, with its book at bk and the reader's draft at dr -/
def ClR (h : AH) (x bk dr : Nat) (s : ST) : Prop := At h x (PolO x bk s.2.1) ∧ TaR h (x + 1) s.1 ∧ ReaE h (x + 3) dr ∧ (∃ a b c, BookE h dr a b c) ∧ CuR h (x + 66) s.2.2.1 s.2.2.2 ∧ (∃ dy, CupE h (x + 111) dy) ∧ CamE h (x + 156) ∧ BoR h bk s.2.2.1 ∧ ((bk = x + 158 ∧ dr = x + 8) ∨ (bk = x + 8 ∧ dr = x + 158))
/-- the nodes' cells of a book at b -/
def NoR (h : AH) (b : Nat) (B : BK) : Prop := (∃ f : Nat → Int32, At h (b + 8) (.inl (0, 25, .inl f)) ∧ ∀ r, r < bRs B → f r = nI (rTf B r)) ∧ (∃ f : Nat → Int32, At h (b + 9) (.inl (0, 25, .inl f)) ∧ ∀ r, r < bRs B → f r = nI (rTe B r)) ∧ (∃ f : Nat → Int32, At h (b + 10) (.inl (0, 25, .inl f)) ∧ ∀ r, r < bRs B → f r = nI (rFa B r)) ∧ (∃ f : Nat → Int32, At h (b + 11) (.inl (0, 25, .inl f)) ∧ ∀ r, r < bRs B → f r = nI (rBa B r)) ∧ (∃ f : Nat → Int32, At h (b + 12) (.inl (0, 61, .inl f)) ∧ ∀ k, k < nAn B → f k = nI (aDo B k)) ∧ (∃ f : Nat → Int32, At h (b + 13) (.inl (0, 61, .inl f)) ∧ ∀ k, k < nAn B → (aDo B k = 9 ∨ aDo B k = 11 ∨ aDo B k = 13) → f k = nI (aWh B k)) ∧ (∃ f : Nat → Int32, At h (b + 14) (.inl (0, 61, .inl f)) ∧ ∀ k, k < nAn B → aDo B k = 9 → f k = nI (aSf B k)) ∧ (∃ f : Nat → Int32, At h (b + 15) (.inl (0, 61, .inl f)) ∧ ∀ k, k < nAn B → aDo B k = 9 → f k = nI (aSu B k)) ∧ (∃ f : Nat → Int32, At h (b + 16) (.inl (0, 800, .inl f)) ∧ ∀ k, k < nNo B → f k = nI (nSo B k)) ∧ (∃ f : Nat → Int32, At h (b + 17) (.inl (0, 800, .inl f)) ∧ ∀ k, k < nNo B → f k = nI (nLe B k)) ∧ ∃ f : Nat → Int32, At h (b + 18) (.inl (0, 800, .inl f)) ∧ ∀ k, k < nNo B → f k = nI (nRi B k)
theorem NoR.keep {h h' : AH} {b : Nat} {B : BK} (q : NoR h b B) (e : h.1 ≤ h'.1) (u : Un h h' b (b + 19)) : NoR h' b B := by
  obtain ⟨⟨f0, a0, c0⟩, ⟨f1, a1, c1⟩, ⟨f2, a2, c2⟩, ⟨f3, a3, c3⟩, ⟨f4, a4, c4⟩, ⟨f5, a5, c5⟩, ⟨f6, a6, c6⟩, ⟨f7, a7, c7⟩, ⟨f8, a8, c8⟩, ⟨f9, a9, c9⟩, ⟨f10, a10, c10⟩⟩ := q
  exact ⟨⟨f0, a0.keep e (u _ (by omega) (by omega)), c0⟩, ⟨f1, a1.keep e (u _ (by omega) (by omega)), c1⟩, ⟨f2, a2.keep e (u _ (by omega) (by omega)), c2⟩, ⟨f3, a3.keep e (u _ (by omega) (by omega)), c3⟩, ⟨f4, a4.keep e (u _ (by omega) (by omega)), c4⟩, ⟨f5, a5.keep e (u _ (by omega) (by omega)), c5⟩, ⟨f6, a6.keep e (u _ (by omega) (by omega)), c6⟩, ⟨f7, a7.keep e (u _ (by omega) (by omega)), c7⟩, ⟨f8, a8.keep e (u _ (by omega) (by omega)), c8⟩, ⟨f9, a9.keep e (u _ (by omega) (by omega)), c9⟩, ⟨f10, a10.keep e (u _ (by omega) (by omega)), c10⟩⟩
/-- the book that is told, with its nodes -/
def MBoT (h : AH) (b : Nat) (B : BK) (ru ac no : Int32) : Prop := At h b (MBoO b (nI (bLa B)) (nI (bJa B)) (nI (bLi B)) ru ac no) ∧ (∀ k, k < 18 → ArI h (b + 1 + k) (mbLen k)) ∧ NoR h b B
theorem MBoT.E {h : AH} {b : Nat} {B : BK} {ru ac no : Int32} (q : MBoT h b B ru ac no) : MBoE h b (nI (bLa B)) (nI (bJa B)) (nI (bLi B)) ru ac no := ⟨q.1, q.2.1⟩
theorem MBoT.keep {h h' : AH} {b : Nat} {B : BK} {ru ac no : Int32} (q : MBoT h b B ru ac no) (e : h.1 ≤ h'.1) (u : Un h h' b (b + 19)) : MBoT h' b B ru ac no := ⟨q.1.keep e (u _ (by omega) (by omega)), (q.E.keep e u).2, q.2.2.keep e u⟩
/-- the reference's object at m -/
def MoR (h : AH) (m : Nat) (s : ST) : Prop := (∃ th tk iw er et dp nm, At h m (ModO m th (nI s.1.length) s.2.1 tk iw er et dp nm)) ∧ (∃ f : Nat → Int32, At h (m + 1) (.inl (0, 1600, .inl f)) ∧ ∀ i, i < s.1.length → f i = nI (s.1.getD i 0)) ∧ ArI h (m + 2) 402 ∧ ArI h (m + 3) 402 ∧ ArI h (m + 4) 402 ∧ ArI h (m + 5) 402 ∧ ArI h (m + 6) 20 ∧ ArI h (m + 7) 20 ∧ ArI h (m + 8) 20 ∧
  (∃ ru ac no, MBoT h (m + 9) s.2.2.1 ru ac no) ∧ (∃ a b c e f g, MBoE h (m + 28) a b c e f g) ∧ ArI h (m + 47) 800 ∧
  (∃ f : Nat → Int32, At h (m + 48) (.inl (0, 61, .inl f)) ∧ f 0 = dDay s.2.2.2 ∧ (∀ j k, j < bJa s.2.2.1 → k < bLa s.2.2.1 → f (1 + 6 * j + k) = nI (dB s.2.2.2 j k)) ∧ (∀ k, k < bLa s.2.2.1 → f (49 + k) = oI (dF s.2.2.2 k)) ∧ ∀ i, i < bLi s.2.2.1 → f (55 + i) = nI (dL s.2.2.2 i)) ∧ ArI h (m + 49) 61 ∧ ArI h (m + 50) 6 ∧ ArI h (m + 51) 6 ∧ ArI h (m + 52) 6
/-- its told book, by its rows -/
def ToR (h : AH) (m : Nat) (B : BK) : Prop := (∃ f : Nat → Int32, At h (m + 10) (.inl (0, 9, .inl f)) ∧ ∀ j, j < bJa B → f j = nI (bSe B j)) ∧ (∃ f : Nat → Int32, At h (m + 11) (.inl (0, 9, .inl f)) ∧ ∀ j, j < bJa B → f j = nI (24 + bWy B j)) ∧ (∃ f : Nat → Int32, At h (m + 14) (.inl (0, 7, .inl f)) ∧ ∀ i, i < bLi B → f i = nI (bLl B i)) ∧ (∃ f : Nat → Int32, At h (m + 15) (.inl (0, 7, .inl f)) ∧ ∀ i, i < bLi B → f i = nI (bRu B i).1) ∧ (∃ f : Nat → Int32, At h (m + 16) (.inl (0, 7, .inl f)) ∧ ∀ i, i < bLi B → f i = nI (bRu B i).2)
