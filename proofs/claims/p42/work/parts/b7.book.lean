/-! the whole text, its tokens, and what reading it gives -/
def lbsX (alt : Bool) : Nat → Nat → List Nat
  | _, 0 => []
  | a, n + 1 => lbX alt a ++ lbsX alt (a + 1) n
def jsX : Nat → List EJa → List Nat
  | _, [] => []
  | k, x :: s => jaX k x ++ jsX (k + 1) s
def lsX : Nat → List ELi → List Nat
  | _, [] => []
  | k, x :: s => liX k x ++ lsX (k + 1) s
theorem lbsX_app (alt : Bool) : ∀ (n a : Nat), lbsX alt a (n + 1) = lbsX alt a n ++ lbX alt (a + n)
  | 0, a => by
    show lbX alt a ++ [] = [] ++ lbX alt (a + 0)
    rw [List.append_nil, List.nil_append, Nat.add_zero]
  | n + 1, a => by
    show lbX alt a ++ lbsX alt (a + 1) (n + 1) = (lbX alt a ++ lbsX alt (a + 1) n) ++ lbX alt (a + (n + 1))
    rw [lbsX_app alt n (a + 1), List.append_assoc, show a + 1 + n = a + (n + 1) by omega]
theorem jsX_app (x : EJa) : ∀ (s : List EJa) (k : Nat), jsX k (s ++ [x]) = jsX k s ++ jaX (k + s.length) x
  | [], k => by
    show jaX k x ++ [] = [] ++ jaX (k + 0) x
    rw [List.append_nil, List.nil_append, Nat.add_zero]
  | y :: s, k => by
    show jaX k y ++ jsX (k + 1) (s ++ [x]) = (jaX k y ++ jsX (k + 1) s) ++ jaX (k + (s.length + 1)) x
    rw [jsX_app x s (k + 1), List.append_assoc, show k + 1 + s.length = k + (s.length + 1) by omega]
theorem lsX_app (x : ELi) : ∀ (s : List ELi) (k : Nat), lsX k (s ++ [x]) = lsX k s ++ liX (k + s.length) x
  | [], k => by
    show liX k x ++ [] = [] ++ liX (k + 0) x
    rw [List.append_nil, List.nil_append, Nat.add_zero]
  | y :: s, k => by
    show liX k y ++ lsX (k + 1) (s ++ [x]) = (liX k y ++ lsX (k + 1) s) ++ liX (k + (s.length + 1)) x
    rw [lsX_app x s (k + 1), List.append_assoc, show k + 1 + s.length = k + (s.length + 1) by omega]
/-- nothing, or from a word to a sign -/
def W0 (x : List Nat) (k : List (Nat × Nat)) : Prop := (x = [] ∧ k = []) ∨ ∃ l, WF x k 1 l ∧ (l = 0 ∨ l = 3)
theorem W0.app {x y : List Nat} {k m : List (Nat × Nat)} (h : W0 x k) (q : W0 y m) : W0 (x ++ y) (k ++ m) := by
  rcases h with ⟨rfl, rfl⟩ | ⟨l, h1, h2⟩
  · exact q
  · rcases q with ⟨rfl, rfl⟩ | ⟨n, q1, q2⟩
    · rw [List.append_nil, List.append_nil]
      exact Or.inr ⟨l, h1, h2⟩
    · exact Or.inr ⟨n, h1.app q1 (by omega), q2⟩
theorem W0.lbs (alt : Bool) : ∀ (n a : Nat), a + n ≤ 20 → W0 (lbsX alt a n) (lbK a n)
  | 0, _, _ => Or.inl ⟨rfl, rfl⟩
  | n + 1, a, h => W0.app (Or.inr (tx_lab (alt := alt) (by omega))) (W0.lbs alt n (a + 1) (by omega))
theorem W0.js {la : Nat} : ∀ (s : List EJa) (k : Nat), k + s.length ≤ 20 → (∀ x ∈ s, okJ la x) → W0 (jsX k s) (jsK k s)
  | [], _, _, _ => Or.inl ⟨rfl, rfl⟩
  | x :: s, k, h, ok => by
    simp only [List.length_cons] at h
    exact W0.app (Or.inr ⟨3, tx_jar (by omega) (ok x List.mem_cons_self), Or.inr rfl⟩) (W0.js s (k + 1) (by omega) (fun y hy => ok y (List.mem_cons_of_mem _ hy)))
theorem W0.ls {la ja : Nat} (l6 : la ≤ 6) (j6 : ja ≤ 6) : ∀ (s : List ELi) (k : Nat), k + s.length ≤ 20 → (∀ x ∈ s, okI la ja x) → W0 (lsX k s) (lsK k s)
  | [], _, _, _ => Or.inl ⟨rfl, rfl⟩
  | x :: s, k, h, ok => by
    simp only [List.length_cons] at h
    exact W0.app (Or.inr ⟨3, tx_lid (by omega) l6 j6 (ok x List.mem_cons_self), Or.inr rfl⟩) (W0.ls l6 j6 s (k + 1) (by omega) (fun y hy => ok y (List.mem_cons_of_mem _ hy)))
def bkX (e la : Nat) (js : List EJa) (ls : List ELi) : List Nat := lbsX true 0 e ++ (jsX 0 js ++ (lbsX false e (la - e) ++ lsX 0 ls))
/-- what is drawn: labels, those of them told ahead, jars, lids -/
def okB (e la : Nat) (js : List EJa) (ls : List ELi) : Prop := (e ≤ la ∧ la ≤ 6) ∧ (1 ≤ js.length ∧ js.length ≤ 4) ∧ ls.length ≤ 3 ∧ ruN ls ≤ 4 ∧ (∀ x ∈ js, okJ e x) ∧ ∀ x ∈ ls, okI la js.length x
theorem W0.bk {e la : Nat} {js : List EJa} {ls : List ELi} (ok : okB e la js ls) : W0 (bkX e la js ls) (bkK e la js ls) := by
  obtain ⟨⟨o1, o2⟩, ⟨o3, o4⟩, o5, o6, o7, o8⟩ := ok
  exact W0.app (W0.lbs true e 0 (by omega)) (W0.app (W0.js js 0 (by omega) o7) (W0.app (W0.lbs false (la - e) e (by omega)) (W0.ls o2 (by omega) ls 0 (by omega) o8)))
theorem W0.lex {x : List Nat} {k : List (Nat × Nat)} (h : W0 x k) (h1 : x.length ≤ 1600) (h2 : k.length ≤ 400) : PosL (tkK x) 0 k ∧ kdT (tkK x) k.length = 41 ∧ cnK x = k.length + 1 := by
  obtain ⟨E, e1, e2, e3, e4⟩ : ∃ E, lxT E = x ∧ lxK E = k ∧ (∀ e ∈ E, okE e) ∧ smS E ≠ none := by
    rcases h with ⟨rfl, rfl⟩ | ⟨l, ⟨E, a1, a2, a3, a4⟩, -⟩
    · exact ⟨[], rfl, rfl, (fun e he => nomatch he), (fun z => nomatch z)⟩
    · exact ⟨E, a1, a2, a3, by rw [a4]; exact fun z => nomatch z⟩
  subst e1
  subst e2
  obtain ⟨r1, r2, r3, r4⟩ := lx_all (smS_ok e3 e4) h1 h2
  have key : ∀ (s : List (Nat × Nat)) (p : Nat), p + s.length = (lxK E).length → (∀ j (hj : j < s.length), kkT (lxT E) (p + j) = (s[j]).1 ∧ vvK (lxT E) (p + j) = (s[j]).2) → PosL (tkK (lxT E)) p s := by
    intro s
    induction s with
    | nil => intro _ _ _; trivial
    | cons t s ih =>
      intro p hp hq
      simp only [List.length_cons] at hp
      have h0 := hq 0 (Nat.zero_lt_succ _)
      rw [Nat.add_zero] at h0
      refine ⟨⟨?_, ?_⟩, ih (p + 1) (by omega) (fun j hj => ?_)⟩
      · show (if p < cnK (lxT E) then kkT (lxT E) p else 42) = _
        rw [if_pos (by omega)]
        exact h0.1
      · show (if p < cnK (lxT E) then vvK (lxT E) p else 0) = _
        rw [if_pos (by omega)]
        exact h0.2
      · have := hq (j + 1) (Nat.succ_lt_succ hj)
        rw [show p + (j + 1) = p + 1 + j by omega] at this
        exact this
  refine ⟨key (lxK E) 0 (Nat.zero_add _) (fun j hj => by rw [Nat.zero_add]; exact r2 j hj), ?_, r1⟩
  show (if (lxK E).length < cnK (lxT E) then kkT (lxT E) (lxK E).length else 42) = 41
  rw [if_pos (by omega)]
  exact r3
/-- how long they are -/
theorem lfK_len (l : ELf) : (lfK l).length ≤ 2 := by
  unfold lfK
  split
  · (simp only [List.length_cons, List.length_nil]; omega)
  · split
    · (simp only [List.length_cons, List.length_nil]; omega)
    · split <;> (simp only [List.length_cons, List.length_nil]; omega)
theorem vaK_le (e : EVa) : (vaK e).length ≤ 7 := by
  match e with
  | .inl l => exact Nat.le_trans (lfK_len l) (by decide)
  | .inr (s, l, m) =>
    rw [vaK_len rfl]
    have h1 := lfK_len l
    have h2 := lfK_len m
    omega
theorem t0K_le (e : ET0) : (t0K e).length ≤ 10 := by
  match e with
  | .inl (k, l) => exact (by decide : 2 ≤ 10)
  | .inr (s, e, l) =>
    have h1 := vaK_le e
    have h2 := lfK_len l
    simp only [t0K, List.length_append, List.length_cons]
    omega
theorem t1K_le (e : ET1) : (t1K e).length ≤ 23 := by
  match e with
  | .inl t => exact Nat.le_trans (t0K_le t) (by decide)
  | .inr (s, t, u) =>
    have h1 := t0K_le t
    have h2 := t0K_le u
    by_cases z : s = 12
    · have e : t1K (.inr (s, t, u)) = (15, 0) :: t0K t := if_pos z
      rw [e, List.length_cons]
      omega
    · rw [t1K_len z]
      omega
theorem acK_le (e : EAc) : (acK e).length ≤ 10 := by
  unfold acK
  split
  · have := vaK_le e.2.2
    simp only [List.length_cons, List.length_append, List.length_nil]
    omega
  · split
    · (simp only [List.length_cons, List.length_nil]; omega)
    · split
      · (simp only [List.length_cons, List.length_nil]; omega)
      · split <;> (simp only [List.length_cons, List.length_nil]; omega)
theorem asK_le : ∀ s : List EAc, (asK s).length ≤ 10 * s.length
  | [] => Nat.le_refl _
  | a :: s => by
    have h1 := acK_le a
    have h2 := asK_le s
    simp only [asK, List.length_append, List.length_cons]
    omega
theorem rsK_le {la ja : Nat} : ∀ s : List ERu, (∀ e ∈ s, okRu la ja e) → (rsK s).length ≤ 56 * s.length ∧ (rsX s).length ≤ 188 * s.length
  | [], _ => ⟨Nat.le_refl _, Nat.le_refl _⟩
  | r :: s, ok => by
    obtain ⟨i1, i2⟩ := rsK_le s (fun e he => ok e (List.mem_cons_of_mem _ he))
    have o := ok r List.mem_cons_self
    have h1 := t1K_le r.1
    have h2 := asK_le r.2
    have h3 := o.2.1
    have h4 := ruX_len o
    have e1 : (ruK r).length = (t1K r.1).length + (asK r.2).length + 3 := by
      simp only [ruK, List.length_append, List.length_cons, List.length_nil]
      omega
    simp only [rsK, rsX, List.length_append, List.length_cons]
    omega
theorem lsK_le {la ja : Nat} : ∀ (s : List ELi) (k : Nat), (∀ x ∈ s, okI la ja x) → (lsK k s).length ≤ 7 * s.length + 56 * ruN s ∧ (lsX k s).length ≤ 23 * s.length + 188 * ruN s
  | [], _, _ => ⟨Nat.le_refl _, Nat.le_refl _⟩
  | x :: s, k, ok => by
    obtain ⟨i1, i2⟩ := lsK_le s (k + 1) (fun e he => ok e (List.mem_cons_of_mem _ he))
    obtain ⟨r1, r2⟩ := rsK_le x.2.2 (ok x List.mem_cons_self).2.2
    have e1 : (lsK k (x :: s)).length = (rsK x.2.2).length + 7 + (lsK (k + 1) s).length := by
      simp only [lsK, liK, List.length_append, List.length_cons, List.length_nil]
    have e2 : (lsX k (x :: s)).length = (rsX x.2.2).length + 23 + (lsX (k + 1) s).length := by
      simp only [lsX, liX, List.length_append, txt_len, nam_len, tL53, tL54, tL55, tL42]
      omega
    have e3 : ruN (x :: s) = x.2.2.length + ruN s := rfl
    rw [e1, e2, e3, List.length_cons]
    omega
theorem beK_le : ∀ s : List Nat, (beK s).length = 2 * s.length ∧ (beX s).length ≤ 5 * s.length
  | [] => ⟨rfl, Nat.le_refl _⟩
  | b :: s => by
    obtain ⟨h1, h2⟩ := beK_le s
    have h3 := dgs_le b
    simp only [beK, beX, List.length_append, List.length_cons, txt_len, tL52]
    omega
theorem jsK_le {la : Nat} (l6 : la ≤ 6) : ∀ (s : List EJa) (k : Nat), (∀ x ∈ s, okJ la x) → (jsK k s).length ≤ 19 * s.length ∧ (jsX k s).length ≤ 65 * s.length
  | [], _, _ => ⟨Nat.le_refl _, Nat.le_refl _⟩
  | x :: s, k, ok => by
    obtain ⟨i1, i2⟩ := jsK_le l6 s (k + 1) (fun e he => ok e (List.mem_cons_of_mem _ he))
    obtain ⟨⟨o1, o2⟩, o3, ⟨o4, o5⟩, o6⟩ := ok x List.mem_cons_self
    obtain ⟨b1, b2⟩ := beK_le x.2.2.tail
    have b3 : x.2.2.tail.length = x.2.2.length - 1 := List.length_tail
    have d1 := dgs_le x.1
    have d2 := dgs_le (x.2.2.getD 0 0)
    have w : tln (44 + x.2.1) ≤ 6 := by
      rcases (by omega : x.2.1 = 0 ∨ x.2.1 = 1 ∨ x.2.1 = 2) with e | e | e <;> rw [e] <;> decide +kernel
    have e1 : (jsK k (x :: s)).length = (beK x.2.2.tail).length + 9 + (jsK (k + 1) s).length := by
      simp only [jsK, jaK, List.length_append, List.length_cons, List.length_nil]
    have e2 : (jsX k (x :: s)).length ≤ 64 - 25 + (beX x.2.2.tail).length + 1 + (jsX (k + 1) s).length := by
      simp only [jsX, jaX, List.length_append, txt_len, nam_len, tL47, tL48, tL49, tL50, tL42]
      omega
    rw [e1, List.length_cons]
    omega
theorem lbK_le (alt : Bool) : ∀ (n a : Nat), (lbK a n).length = 3 * n ∧ (lbsX alt a n).length ≤ 12 * n
  | 0, _ => ⟨rfl, Nat.le_refl _⟩
  | n + 1, a => by
    obtain ⟨h1, h2⟩ := lbK_le alt n (a + 1)
    have h3 : (lbX alt a).length ≤ 12 := by
      unfold lbX
      split <;> simp only [List.length_append, txt_len, nam_len, tL41, tL42, tL43] <;> omega
    simp only [lbK, lbsX, List.length_append, List.length_cons, List.length_nil]
    omega
theorem bk_len {e la : Nat} {js : List EJa} {ls : List ELi} (ok : okB e la js ls) : (bkK e la js ls).length ≤ 399 ∧ (bkX e la js ls).length ≤ 1200 := by
  obtain ⟨⟨o1, o2⟩, ⟨o3, o4⟩, o5, o6, o7, o8⟩ := ok
  obtain ⟨a1, a2⟩ := lbK_le true e 0
  obtain ⟨b1, b2⟩ := jsK_le (by omega) js 0 o7
  obtain ⟨c1, c2⟩ := lbK_le false (la - e) e
  obtain ⟨d1, d2⟩ := lsK_le ls 0 o8
  unfold bkK bkX
  simp only [List.length_append]
  omega
/-- READING IT -/
theorem bk_read {e la : Nat} {js : List EJa} {ls : List ELi} (ok : okB e la js ls) (w te tn ae O : Nat → Nat) : ∃ d', lsP (tkK (bkX e la js ls)) 400 (0, 0, 0, dfZ w te tn ae O) = ((bkK e la js ls).length, 0, 0, d') ∧ DrS la js ls d' := by
  obtain ⟨l1, l2⟩ := bk_len ok
  obtain ⟨r1, r2, r3⟩ := (W0.bk ok).lex (by omega) (by omega)
  obtain ⟨⟨o1, o2⟩, ⟨o3, o4⟩, o5, o6, o7, o8⟩ := ok
  exact bk_all o1 o2 o4 o5 (by omega) o7 o8 r1 r2
