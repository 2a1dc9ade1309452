/-! WHAT LIES WHERE: the class's and the reference's cells, over one abstract state -/
/-- what days change: the day, beans of a label in a jar, each lid's jar, whom each label follows -/
abbrev DY : Type := Int32 × (Nat → Nat → Nat) × (Nat → Nat) × (Nat → Option Nat)
abbrev dDay (D : DY) : Int32 := D.1
abbrev dB (D : DY) : Nat → Nat → Nat := D.2.1
abbrev dL (D : DY) : Nat → Nat := D.2.2.1
abbrev dF (D : DY) : Nat → Option Nat := D.2.2.2
/-- a book: labels, jars, lids; a jar's seats and way; a lid's label and its rules; a rule's test and acts, by what they come to -/
abbrev BK : Type := Nat × Nat × Nat × (Nat → Nat) × (Nat → Nat) × (Nat → Nat) × (Nat → Nat × Nat) × (Nat → Nat → DY → Bool) × (Nat → Nat → DY → DY) × (Nat → Nat)
abbrev bLa (B : BK) : Nat := B.1
abbrev bJa (B : BK) : Nat := B.2.1
abbrev bLi (B : BK) : Nat := B.2.2.1
abbrev bSe (B : BK) : Nat → Nat := B.2.2.2.1
abbrev bWy (B : BK) : Nat → Nat := B.2.2.2.2.1
abbrev bLl (B : BK) : Nat → Nat := B.2.2.2.2.2.1
abbrev bRu (B : BK) : Nat → Nat × Nat := B.2.2.2.2.2.2.1
/-- what is always so of the two -/
def BDok (B : BK) (D : DY) : Prop := bLa B ≤ 6 ∧ bJa B ≤ 8 ∧ bLi B ≤ 6 ∧ (∀ i, i < 8 → bSe B i ≤ 9 ∧ bWy B i < 3) ∧ (∀ i, bJa B ≤ i → i < 8 → bSe B i = 0 ∧ ∀ k, k < 6 → dB D i k = 0) ∧ (∀ i k, i < 8 → bLa B ≤ k → k < 6 → dB D i k = 0) ∧ (∀ i, i < 8 → su (dB D i) 6 ≤ 1200) ∧
  (∀ i, i < bLi B → bLl B i < bLa B ∧ dL D i < bJa B) ∧ (∀ k j, k < 6 → dF D k = some j → k < bLa B ∧ j < bLa B) ∧ (∀ k, k < 6 → dF D (rt (dF D) k) = none)
/-- what a jar has counted -/
def Cnt (r b : Nat → Nat) (se wy : Nat) (p w : Nat → Int32) (tu fi ma : Int32) : Prop := (∀ k, k < 6 → p k = nI (po r b k)) ∧ (∀ k, k < 6 → w k = nI (wo (po r b) (su b 6) se wy k)) ∧ tu = nI (su b 6) ∧ fi = oI (fiN (po r b) 6) ∧ ma = nI (mar (po r b))
def JaR (h : AH) (j : Nat) (b : Nat → Nat) (se wy : Nat) (r : Nat → Nat) : Prop := ∃ bf p w l tu fi ma co, JarC h j bf p w l (nI se) (24 + wy) tu fi ma co ∧ (∀ k, k < 6 → bf k = nI (b k)) ∧ (co = nI 0 ∨ (co = nI 1 ∧ Cnt r b se wy p w tu fi ma))
theorem JaR.keep {h h' : AH} {j se wy : Nat} {b r : Nat → Nat} (a : JaR h j b se wy r) (e : h.1 ≤ h'.1) (u : Un h h' j (j + 5)) : JaR h' j b se wy r := by
  obtain ⟨bf, p, w, l, tu, fi, ma, co, a1, a2⟩ := a
  exact ⟨bf, p, w, l, tu, fi, ma, co, a1.keep e u, a2⟩
/-- a cupboard -/
def CuR (h : AH) (c : Nat) (B : BK) (D : DY) : Prop := ∃ (jf : Nat → Option Nat) (lj fo le : Nat → Int32), At h c (.inr (2, [.ref (c + 1), .ref (c + 2), .ref (c + 3), .ref (c + 4), .int (dDay D)])) ∧ At h (c + 1) (.inl (3, 8, .inr (.inr (.inr (.inr jf))))) ∧ At h (c + 2) (.inl (0, 6, .inl lj)) ∧ At h (c + 3) (.inl (0, 6, .inl fo)) ∧ At h (c + 4) (.inl (0, 6, .inl le)) ∧ (∀ i, i < 8 → jf i = some (c + 5 + 5 * i)) ∧ (∀ i, i < 6 → lj i = nI (dL D i)) ∧ (∀ i, i < 6 → fo i = oI (dF D i)) ∧ (∀ i, i < 6 → le i = nI (rt (dF D) i)) ∧ ∀ i, i < 8 → JaR h (c + 5 + 5 * i) (dB D i) (bSe B i) (bWy B i) (rt (dF D))
theorem CuR.keep {h h' : AH} {c : Nat} {B : BK} {D : DY} (a : CuR h c B D) (e : h.1 ≤ h'.1) (u : Un h h' c (c + 45)) : CuR h' c B D := by
  obtain ⟨jf, lj, fo, le, a1, a2, a3, a4, a5, a6, a7, a8, a9, a10⟩ := a
  exact ⟨jf, lj, fo, le, a1.keep e (u _ (by omega) (by omega)), a2.keep e (u _ (by omega) (by omega)), a3.keep e (u _ (by omega) (by omega)), a4.keep e (u _ (by omega) (by omega)), a5.keep e (u _ (by omega) (by omega)), a6, a7, a8, a9, fun i hi => (a10 i hi).keep e (u.sub (by omega) (by omega))⟩
def BooO (b : Nat) (la ja li : Int32) : AC := .inr (0, [.ref (b + 1), .ref (b + 2), .ref (b + 3), .ref (b + 4), .ref (b + 5), .ref (b + 6), .ref (b + 7), .ref (b + 52), .int la, .int ja, .int li])
/-- the book that is told; its script's meaning is said elsewhere -/
def BoR (h : AH) (b : Nat) (B : BK) : Prop := At h b (BooO b (nI (bLa B)) (nI (bJa B)) (nI (bLi B))) ∧ ArJ h (b + 1) 6 ∧ ArJ h (b + 2) 8 ∧ ArJ h (b + 3) 6 ∧ (∃ f : Nat → Int32, At h (b + 4) (.inl (0, 6, .inl f)) ∧ ∀ i, i < bLi B → f i = nI (bLl B i)) ∧ (∃ f : Nat → Int32, At h (b + 5) (.inl (0, 6, .inl f)) ∧ ∀ i, i < bLi B → f i = nI (bRu B i).1) ∧ (∃ f : Nat → Int32, At h (b + 6) (.inl (0, 6, .inl f)) ∧ ∀ i, i < bLi B → f i = nI (bRu B i).2) ∧ CupS h (b + 7) ∧ ScrE h (b + 52)
theorem BoR.keep {h h' : AH} {b : Nat} {B : BK} (q : BoR h b B) (e : h.1 ≤ h'.1) (u : Un h h' b (b + 58)) : BoR h' b B := by
  obtain ⟨a1, a2, a3, a4, ⟨f5, a5, c5⟩, ⟨f6, a6, c6⟩, ⟨f7, a7, c7⟩, a8, a9⟩ := q
  exact ⟨a1.keep e (u _ (by omega) (by omega)), a2.keep e (u _ (by omega) (by omega)), a3.keep e (u _ (by omega) (by omega)), a4.keep e (u _ (by omega) (by omega)), ⟨f5, a5.keep e (u _ (by omega) (by omega)), c5⟩, ⟨f6, a6.keep e (u _ (by omega) (by omega)), c6⟩, ⟨f7, a7.keep e (u _ (by omega) (by omega)), c7⟩, a8.keep e (u.sub (by omega) (by omega)), a9.keep e (u.sub (by omega) (by omega))⟩
/-- the tape: its bytes as they lie in a Java byte array -/
def TaR (h : AH) (t : Nat) (T : List Nat) : Prop := At h t (.inr (6, [.ref (t + 1), .int (nI T.length)])) ∧ T.length ≤ 1600 ∧ ∃ f : Nat → Int32, At h (t + 1) (.inl (1, 1600, .inl f)) ∧ ∀ i, i < T.length → f i = (nI (T.getD i 0)).toInt8.toInt32
theorem TaR.keep {h h' : AH} {t : Nat} {T : List Nat} (q : TaR h t T) (e : h.1 ≤ h'.1) (u : Un h h' t (t + 2)) : TaR h' t T := by
  obtain ⟨a1, a2, f, a3, a4⟩ := q
  exact ⟨a1.keep e (u _ (by omega) (by omega)), a2, f, a3.keep e (u _ (by omega) (by omega)), a4⟩
/-- all that a run has come to: the tape, the latest error's place, the book, what days change -/
abbrev ST : Type := List Nat × Int32 × BK × DY
/-- the class's object at x, with its book at bk and the reader's draft at dr -/
def ClR (h : AH) (x bk dr : Nat) (s : ST) : Prop := At h x (PolO x bk s.2.1) ∧ TaR h (x + 1) s.1 ∧ ReaE h (x + 3) dr ∧ (∃ a b c, BookE h dr a b c) ∧ CuR h (x + 66) s.2.2.1 s.2.2.2 ∧ (∃ dy, CupE h (x + 111) dy) ∧ CamE h (x + 156) ∧ BoR h bk s.2.2.1 ∧ ((bk = x + 158 ∧ dr = x + 8) ∨ (bk = x + 8 ∧ dr = x + 158))
/-- the reference's object at m -/
def MoR (h : AH) (m : Nat) (s : ST) : Prop := (∃ th tk iw er et dp nm, At h m (ModO m th (nI s.1.length) s.2.1 tk iw er et dp nm)) ∧ (∃ f : Nat → Int32, At h (m + 1) (.inl (0, 1600, .inl f)) ∧ ∀ i, i < s.1.length → f i = nI (s.1.getD i 0)) ∧ ArI h (m + 2) 402 ∧ ArI h (m + 3) 402 ∧ ArI h (m + 4) 402 ∧ ArI h (m + 5) 402 ∧ ArI h (m + 6) 20 ∧ ArI h (m + 7) 20 ∧ ArI h (m + 8) 20 ∧
  (∃ ru ac no, MBoE h (m + 9) (nI (bLa s.2.2.1)) (nI (bJa s.2.2.1)) (nI (bLi s.2.2.1)) ru ac no) ∧ (∃ a b c e f g, MBoE h (m + 28) a b c e f g) ∧ ArI h (m + 47) 800 ∧
  (∃ f : Nat → Int32, At h (m + 48) (.inl (0, 61, .inl f)) ∧ f 0 = dDay s.2.2.2 ∧ (∀ j k, j < bJa s.2.2.1 → k < bLa s.2.2.1 → f (1 + 6 * j + k) = nI (dB s.2.2.2 j k)) ∧ (∀ k, k < bLa s.2.2.1 → f (49 + k) = oI (dF s.2.2.2 k)) ∧ ∀ i, i < bLi s.2.2.1 → f (55 + i) = nI (dL s.2.2.2 i)) ∧ ArI h (m + 49) 61 ∧ ArI h (m + 50) 6 ∧ ArI h (m + 51) 6 ∧ ArI h (m + 52) 6
/-- its told book, by its rows -/
def ToR (h : AH) (m : Nat) (B : BK) : Prop := (∃ f : Nat → Int32, At h (m + 10) (.inl (0, 9, .inl f)) ∧ ∀ j, j < bJa B → f j = nI (bSe B j)) ∧ (∃ f : Nat → Int32, At h (m + 11) (.inl (0, 9, .inl f)) ∧ ∀ j, j < bJa B → f j = nI (24 + bWy B j)) ∧ (∃ f : Nat → Int32, At h (m + 14) (.inl (0, 7, .inl f)) ∧ ∀ i, i < bLi B → f i = nI (bLl B i)) ∧ (∃ f : Nat → Int32, At h (m + 15) (.inl (0, 7, .inl f)) ∧ ∀ i, i < bLi B → f i = nI (bRu B i).1) ∧ (∃ f : Nat → Int32, At h (m + 16) (.inl (0, 7, .inl f)) ∧ ∀ i, i < bLi B → f i = nI (bRu B i).2)
