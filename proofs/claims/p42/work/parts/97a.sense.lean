/-! SENSE: what a test's steps come to, its nodes come to -/
theorem rnV_s {B : BK} {D : DY} {i a m : Nat} {S S1 : List Int32} (q : stV B D i (cKd B a) (cNu B a) S = some S1) : rnV B D i a (m + 1) S = rnV B D i (a + 1) m S1 := by
  rw [rnV, q]
theorem rnV_add {B : BK} {D : DY} {i : Nat} : ∀ (m a n : Nat) (S S1 : List Int32), rnV B D i a m S = some S1 → rnV B D i a (m + n) S = rnV B D i (a + m) n S1
  | 0, a, n, S, S1, e => by
    have e : S = S1 := Option.some.inj e
    rw [← e, Nat.zero_add]
    rfl
  | m + 1, a, n, S, S1, e => by
    rw [show m + 1 + n = (m + n) + 1 from by omega]
    rw [rnV] at e
    cases q : stV B D i (cKd B a) (cNu B a) S with
    | none =>
      rw [q] at e
      exact nomatch e
    | some S2 =>
      rw [q] at e
      rw [rnV_s q, show a + (m + 1) = a + 1 + m from by omega]
      exact rnV_add m (a + 1) n S2 S1 e
theorem evN_add {B : BK} {D : DY} {i : Nat} : ∀ (n f m : Nat) (v : Nat → Int32), evN B D i f (m + n) v = evN B D i (f + m) n (evN B D i f m v)
  | 0, _, _, _ => rfl
  | n + 1, f, m, v => by
    show upd (evN B D i f (m + n) v) (f + (m + n)) (ndV B D i (nSo B (f + (m + n))) (nLe B (f + (m + n))) (nRi B (f + (m + n))) (evN B D i f (m + n) v)) = upd (evN B D i (f + m) n (evN B D i f m v)) (f + m + n) (ndV B D i (nSo B (f + m + n)) (nLe B (f + m + n)) (nRi B (f + m + n)) (evN B D i (f + m) n (evN B D i f m v)))
    rw [evN_add n f m v, Nat.add_assoc f m n]
theorem evN_out {B : BK} {D : DY} {i k : Nat} : ∀ (n f : Nat) (v : Nat → Int32), k < f ∨ f + n ≤ k → evN B D i f n v k = v k
  | 0, _, _, _ => rfl
  | n + 1, f, v, h => by
    show (if k = f + n then _ else evN B D i f n v k) = v k
    rw [if_neg (by omega)]
    exact evN_out n f v (by omega)
theorem evN_last {B : BK} {D : DY} {i f m : Nat} {v : Nat → Int32} : evN B D i f (m + 1) v (f + m) = ndV B D i (nSo B (f + m)) (nLe B (f + m)) (nRi B (f + m)) (evN B D i f m v) := if_pos rfl
/-- a book grows: steps and nodes -/
def Exb (B F : BK) : Prop := cSt B ≤ cSt F ∧ nNo B ≤ nNo F ∧ (∀ k, k < cSt B → cKd F k = cKd B k ∧ cNu F k = cNu B k) ∧ ∀ k, k < nNo B → nSo F k = nSo B k ∧ nLe F k = nLe B k ∧ nRi F k = nRi B k
theorem Exb.rf (B : BK) : Exb B B := ⟨Nat.le_refl _, Nat.le_refl _, fun _ _ => ⟨rfl, rfl⟩, fun _ _ => ⟨rfl, rfl, rfl⟩⟩
theorem Exb.trans {A B C : BK} (a : Exb A B) (b : Exb B C) : Exb A C := by
  obtain ⟨a1, a2, a3, a4⟩ := a
  obtain ⟨b1, b2, b3, b4⟩ := b
  refine ⟨Nat.le_trans a1 b1, Nat.le_trans a2 b2, fun k hk => ?_, fun k hk => ?_⟩
  · have x := a3 k hk
    have y := b3 k (by omega)
    exact ⟨y.1.trans x.1, y.2.trans x.2⟩
  · have x := a4 k hk
    have y := b4 k (by omega)
    exact ⟨y.1.trans x.1, y.2.1.trans x.2.1, y.2.2.trans x.2.2⟩
/-- a step more, a node more -/
def stX (kd n : Nat) (B : BK) : BK := scB (cSt B + 1, upN (cKd B) (cSt B) kd, upN (cNu B) (cSt B) n, cTe B, cTn B, cAe B) B
def noB (so l r : Nat) (B : BK) : BK := ndB (nNo B + 1, nAn B, upN (nSo B) (nNo B) so, upN (nLe B) (nNo B) l, upN (nRi B) (nNo B) r, nRu B, nAc B) B
theorem Exb.st {kd n : Nat} (B : BK) : Exb B (stX kd n B) := ⟨Nat.le_succ _, Nat.le_refl _, fun k hk => ⟨if_neg (Nat.ne_of_lt hk), if_neg (Nat.ne_of_lt hk)⟩, fun _ _ => ⟨rfl, rfl, rfl⟩⟩
theorem Exb.no {so l r : Nat} (B : BK) : Exb B (noB so l r B) := ⟨Nat.le_refl _, Nat.le_succ _, fun _ _ => ⟨rfl, rfl⟩, fun k hk => ⟨if_neg (Nat.ne_of_lt hk), if_neg (Nat.ne_of_lt hk), if_neg (Nat.ne_of_lt hk)⟩⟩
theorem st_kd {kd n : Nat} {B F : BK} (e : Exb (stX kd n B) F) : cKd F (cSt B) = kd ∧ cNu F (cSt B) = n := by
  have x := e.2.2.1 (cSt B) (Nat.lt_succ_self _)
  exact ⟨x.1.trans (if_pos rfl), x.2.trans (if_pos rfl)⟩
theorem no_so {so l r : Nat} {B F : BK} (e : Exb (noB so l r B) F) : nSo F (nNo B) = so ∧ nLe F (nNo B) = l ∧ nRi F (nNo B) = r := by
  have x := e.2.2.2 (nNo B) (Nat.lt_succ_self _)
  exact ⟨x.1.trans (if_pos rfl), x.2.1.trans (if_pos rfl), x.2.2.trans (if_pos rfl)⟩
/-- steps and nodes are well made -/
def WfB (B : BK) : Prop := (bLa B ≤ 6 ∧ bJa B ≤ 8) ∧ (∀ k, k < cSt B → okS B (cKd B k) (cNu B k)) ∧ ∀ k, k < nNo B → okN B (nSo B k) (nLe B k) (nRi B k)
theorem WfB.st {B : BK} {kd n : Nat} (w : WfB B) (h : okS B kd n) : WfB (stX kd n B) := by
  refine ⟨w.1, fun k hk => ?_, w.2.2⟩
  show okS B (if k = cSt B then kd else cKd B k) (if k = cSt B then n else cNu B k)
  by_cases e : k = cSt B
  · rw [if_pos e, if_pos e]
    exact h
  · rw [if_neg e, if_neg e]
    exact w.2.1 k (by
      have hk : k < cSt B + 1 := hk
      omega)
theorem WfB.no {B : BK} {so l r : Nat} (w : WfB B) (h : okN B so l r) : WfB (noB so l r B) := by
  refine ⟨w.1, w.2.1, fun k hk => ?_⟩
  show okN B (if k = nNo B then so else nSo B k) (if k = nNo B then l else nLe B k) (if k = nNo B then r else nRi B k)
  by_cases e : k = nNo B
  · rw [if_pos e, if_pos e, if_pos e]
    exact h
  · rw [if_neg e, if_neg e, if_neg e]
    exact w.2.2 k (by
      have hk : k < nNo B + 1 := hk
      omega)
/-- what the steps leave, and the nodes' root -/
def CVs (F : BK) (D : DY) (i : Nat) (B0 B : BK) (x : Int32) : Prop := ∀ S, rnV F D i (cSt B0) (cSt B - cSt B0) S = some (x :: S)
def RVs (F : BK) (D : DY) (i : Nat) (B0 B : BK) (r : Nat) (x : Int32) : Prop := ∀ v, evN F D i (nNo B0) (nNo B - nNo B0) v r = x
def Bl (bl : Bool) (x : Int32) : Prop := bl = true → x = nI 0 ∨ x = nI 1
def Vse (bl : Bool) (B0 B : BK) (r : Nat) : Prop := nNo B0 ≤ r ∧ r + 1 = nNo B ∧ ∀ (F : BK) (D : DY) (i : Nat), Exb B F → ∃ x : Int32, Bl bl x ∧ CVs F D i B0 B x ∧ RVs F D i B0 B r x
theorem CVs.step {F : BK} {D : DY} {i : Nat} {B0 B : BK} {kd n : Nat} {x y : Int32} {S1 : List Int32} (e0 : Exb B0 B) (ef : Exb (stX kd n B) F) (c : ∀ S, rnV F D i (cSt B0) (cSt B - cSt B0) S = some (S1 ++ S)) (q : ∀ S, stV F D i kd n (S1 ++ S) = some (y :: S)) : CVs F D i B0 (stX kd n B) y := fun S => by
  have l := e0.1
  show rnV F D i (cSt B0) (cSt B + 1 - cSt B0) S = some (y :: S)
  rw [show cSt B + 1 - cSt B0 = (cSt B - cSt B0) + 1 from by omega, rnV_add _ _ 1 _ _ (c S), show cSt B0 + (cSt B - cSt B0) = cSt B from by omega]
  have k := st_kd ef
  rw [rnV_s (S1 := y :: S) (by rw [k.1, k.2]; exact q S)]
  rfl
theorem CVs.two {F : BK} {D : DY} {i : Nat} {B0 B1 B2 : BK} {x y : Int32} (e0 : Exb B0 B1) (e1 : Exb B1 B2) (c1 : CVs F D i B0 B1 x) (c2 : CVs F D i B1 B2 y) : ∀ S, rnV F D i (cSt B0) (cSt B2 - cSt B0) S = some ([y, x] ++ S) := fun S => by
  have l := e0.1
  have l1 := e1.1
  rw [show cSt B2 - cSt B0 = (cSt B1 - cSt B0) + (cSt B2 - cSt B1) from by omega, rnV_add _ _ _ _ _ (c1 S), show cSt B0 + (cSt B1 - cSt B0) = cSt B1 from by omega]
  exact c2 (x :: S)
theorem RVs.node {F : BK} {D : DY} {i : Nat} {B0 B : BK} {so l r : Nat} {z : Int32} (e0 : Exb B0 B) (ef : Exb (noB so l r B) F) (q : ∀ v, ndV F D i so l r (evN F D i (nNo B0) (nNo B - nNo B0) v) = z) : RVs F D i B0 (noB so l r B) (nNo B) z := fun v => by
  have h := e0.2.1
  show evN F D i (nNo B0) (nNo B + 1 - nNo B0) v (nNo B) = z
  have k := no_so ef
  have e1 := evN_last (B := F) (D := D) (i := i) (f := nNo B0) (m := nNo B - nNo B0) (v := v)
  rw [show nNo B0 + (nNo B - nNo B0) = nNo B from by omega, k.1, k.2.1, k.2.2] at e1
  rw [show nNo B + 1 - nNo B0 = (nNo B - nNo B0) + 1 from by omega, e1]
  exact q v
theorem RVs.left {F : BK} {D : DY} {i : Nat} {B0 B1 B2 : BK} {r : Nat} {x : Int32} (e0 : Exb B0 B1) (e1 : Exb B1 B2) (hr : r < nNo B1) (c : RVs F D i B0 B1 r x) : RVs F D i B0 B2 r x := fun v => by
  have l := e0.2.1
  have l1 := e1.2.1
  rw [show nNo B2 - nNo B0 = (nNo B1 - nNo B0) + (nNo B2 - nNo B1) from by omega, evN_add, show nNo B0 + (nNo B1 - nNo B0) = nNo B1 from by omega, evN_out _ _ _ (Or.inl hr)]
  exact c v
theorem RVs.right {F : BK} {D : DY} {i : Nat} {B0 B1 B2 : BK} {r : Nat} {x : Int32} (e0 : Exb B0 B1) (e1 : Exb B1 B2) (c : RVs F D i B1 B2 r x) : RVs F D i B0 B2 r x := fun v => by
  have l := e0.2.1
  have l1 := e1.2.1
  rw [show nNo B2 - nNo B0 = (nNo B1 - nNo B0) + (nNo B2 - nNo B1) from by omega, evN_add, show nNo B0 + (nNo B1 - nNo B0) = nNo B1 from by omega]
  exact c _
/-- a word of the grammar that joins two values -/
def isW (w : Nat) : Prop := w = 16 ∨ w = 17 ∨ w = 33 ∨ w = 34 ∨ w = 35 ∨ w = 36 ∨ w = 37 ∨ w = 38
theorem st_jn {F : BK} {D : DY} {i w n : Nat} {x y : Int32} {S : List Int32} (h : isW w) : stV F D i w n (y :: x :: S) = some (jnV w x y :: S) := by
  rcases h with h | h | h | h | h | h | h | h <;> subst h <;> rfl
theorem nd_jn {F : BK} {D : DY} {i w l r : Nat} {v : Nat → Int32} (h : isW w) : ndV F D i (soK w) l r v = jnV w (v l) (v r) := by
  rcases h with h | h | h | h | h | h | h | h <;> subst h <;> rfl
/-- two values joined -/
theorem Vse.jn {b1 b2 : Bool} {B0 B1 B2 : BK} {w r1 r2 : Nat} (v1 : Vse b1 B0 B1 r1) (v2 : Vse b1 B1 B2 r2) (e0 : Exb B0 B1) (e1 : Exb B1 B2) (hw : isW w) (hb : ∀ x y, Bl b1 x → Bl b1 y → Bl b2 (jnV w x y)) : Vse b2 B0 (noB (soK w) r1 r2 (stX w 0 B2)) (nNo B2) := by
  obtain ⟨a1, a2, a3⟩ := v1
  obtain ⟨c1, c2, c3⟩ := v2
  have l := e0.2.1
  have l1 := e1.2.1
  refine ⟨by omega, rfl, fun F D i ef => ?_⟩
  have f2 : Exb (stX w 0 B2) F := (Exb.no _).trans ef
  have f3 : Exb B2 F := (Exb.st _).trans f2
  obtain ⟨x, x1, x2, x3⟩ := a3 F D i (e1.trans f3)
  obtain ⟨y, y1, y2, y3⟩ := c3 F D i f3
  refine ⟨jnV w x y, hb x y x1 y1, CVs.step (x := x) (e0.trans e1) f2 (CVs.two e0 e1 x2 y2) (fun S => st_jn hw), RVs.node (B := stX w 0 B2) ((e0.trans e1).trans (Exb.st _)) ef (fun v => ?_)⟩
  rw [nd_jn hw]
  have z1 := (RVs.left e0 e1 (by omega) x3) v
  have z2 := (RVs.right e0 e1 y3) v
  show jnV w (evN F D i (nNo B0) (nNo B2 - nNo B0) v r1) (evN F D i (nNo B0) (nNo B2 - nNo B0) v r2) = jnV w x y
  rw [z1, z2]
/-- a step and a node that need nothing -/
theorem Vse.leaf {bl : Bool} {B : BK} {kd n so l r : Nat} (h : ∀ (F : BK) (D : DY) (i : Nat), ∃ x : Int32, Bl bl x ∧ (∀ S, stV F D i kd n S = some (x :: S)) ∧ ∀ v, ndV F D i so l r v = x) : Vse bl B (noB so l r (stX kd n B)) (nNo B) := by
  refine ⟨Nat.le_refl _, rfl, fun F D i ef => ?_⟩
  obtain ⟨x, x1, x2, x3⟩ := h F D i
  have f2 : Exb (stX kd n B) F := (Exb.no _).trans ef
  refine ⟨x, x1, CVs.step (x := x) (S1 := []) (Exb.rf B) f2 (fun S => ?_) (fun S => x2 S), RVs.node (B := stX kd n B) (Exb.st _) ef (fun v => x3 _)⟩
  rw [Nat.sub_self]
  rfl
/-- so many times not -/
def ntV (x : Int32) : Nat → Int32
  | 0 => x
  | n + 1 => nI 1 - ntV x n
theorem ntV_eq {x : Int32} (h : x = nI 0 ∨ x = nI 1) : ∀ n, ntV x n = if n % 2 = 1 then (if x = 0 then nI 1 else nI 0) else x
  | 0 => rfl
  | n + 1 => by
    show nI 1 - ntV x n = _
    rw [ntV_eq h n]
    by_cases q : n % 2 = 1
    · rw [if_pos q, if_neg (show ¬ (n + 1) % 2 = 1 by omega)]
      rcases h with h | h <;> subst h <;> decide
    · rw [if_neg q, if_pos (show (n + 1) % 2 = 1 by omega)]
      rcases h with h | h <;> subst h <;> decide
theorem ntV_bl {x : Int32} (h : x = nI 0 ∨ x = nI 1) (n : Nat) : ntV x n = nI 0 ∨ ntV x n = nI 1 := by
  rw [ntV_eq h n]
  split
  · rcases h with h | h <;> subst h
    · exact Or.inr rfl
    · exact Or.inl rfl
  · exact h
