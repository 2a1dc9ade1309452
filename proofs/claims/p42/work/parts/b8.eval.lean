/-! what the steps come to: values, tests, acts, rules of the law's own kind -/
def rnL (B : BK) (D : DY) (i : Nat) : List (Nat × Nat) → List Int32 → Option (List Int32)
  | [], S => some S
  | t :: s, S => match stV B D i t.1 t.2 S with
    | none => none
    | some S' => rnL B D i s S'
theorem StAt.tl {B : BK} {a : Nat} {t : Nat × Nat} {s : List (Nat × Nat)} (h : StAt B a (t :: s)) : (cKd B a = t.1 ∧ cNu B a = t.2) ∧ StAt B (a + 1) s := by
  obtain ⟨h1, h2⟩ := h
  simp only [List.length_cons] at h1 h2
  refine ⟨h2 0 (Nat.zero_lt_succ _), by omega, fun i hi => ?_⟩
  have := h2 (i + 1) (Nat.succ_lt_succ hi)
  rw [show a + (i + 1) = a + 1 + i by omega] at this
  exact this
theorem rn_at {B : BK} {D : DY} {i : Nat} : ∀ (l : List (Nat × Nat)) (a : Nat) (S : List Int32), StAt B a l → rnV B D i a l.length S = rnL B D i l S
  | [], _, _, _ => rfl
  | t :: s, a, S, h => by
    obtain ⟨⟨e1, e2⟩, h2⟩ := h.tl
    show (match stV B D i (cKd B a) (cNu B a) S with | none => none | some S' => rnV B D i (a + 1) s.length S') = (match stV B D i t.1 t.2 S with | none => none | some S' => rnL B D i s S')
    rw [e1, e2]
    cases stV B D i t.1 t.2 S with
    | none => rfl
    | some S' => exact rn_at s (a + 1) S' h2
theorem rnL_app {B : BK} {D : DY} {i : Nat} : ∀ (l m : List (Nat × Nat)) (S S1 : List Int32), rnL B D i l S = some S1 → rnL B D i (l ++ m) S = rnL B D i m S1
  | [], m, S, S1, h => by
    cases h
    rfl
  | t :: s, m, S, S1, h => by
    show (match stV B D i t.1 t.2 S with | none => none | some S' => rnL B D i (s ++ m) S') = _
    have h : (match stV B D i t.1 t.2 S with | none => none | some S' => rnL B D i s S') = some S1 := h
    cases e : stV B D i t.1 t.2 S with
    | none => rw [e] at h; exact nomatch h
    | some S' =>
      rw [e] at h
      exact rnL_app s m S' S1 h
/-- steps leave one value more -/
def Ev (B : BK) (D : DY) (i : Nat) (l : List (Nat × Nat)) (x : Int32) : Prop := ∀ S, rnL B D i l S = some (x :: S)
def vLf (B : BK) (D : DY) (i : Nat) (l : ELf) : Int32 := if l.1 = 0 then nI l.2 else if l.1 = 1 then lkV B D i (wdK l.2) 0 else if l.1 = 2 then lkV B D i 21 l.2 else lkV B D i 2 l.2
def vVa (B : BK) (D : DY) (i : Nat) : EVa → Int32
  | .inl l => vLf B D i l
  | .inr (s, l, m) => jnV (sgK s) (vLf B D i l) (vLf B D i m)
def vT0 (B : BK) (D : DY) (i : Nat) : ET0 → Int32
  | .inl (k, l) => lkV B D i (if k = 10 then 18 else 19) l
  | .inr (s, e, l) => jnV (sgK s) (vVa B D i e) (vLf B D i l)
def vT1 (B : BK) (D : DY) (i : Nat) : ET1 → Int32
  | .inl t => vT0 B D i t
  | .inr (s, t, u) => if s = 12 then (if vT0 B D i t = 0 then nI 1 else nI 0) else jnV (if s = 13 then 16 else 17) (vT0 B D i t) (vT0 B D i u)
section EV
variable {B : BK} {D : DY} {i la ja : Nat}
theorem Ev.nu (n : Nat) : Ev B D i [(40, n)] (nI n) := fun S => by
  show (match stV B D i 40 n S with | none => none | some S' => some S') = _
  unfold stV
  rw [if_neg (by decide), if_pos rfl]
theorem Ev.lk {kd n : Nat} (h : isLk kd = true) (h15 : kd ≠ 15) (h40 : kd ≠ 40) : Ev B D i [(kd, n)] (lkV B D i kd n) := fun S => by
  show (match stV B D i kd n S with | none => none | some S' => some S') = _
  unfold stV
  rw [if_neg h15, if_neg h40, if_pos h]
theorem Ev.jn {l m : List (Nat × Nat)} {x y : Int32} {kd n : Nat} (h1 : Ev B D i l x) (h2 : Ev B D i m y) (hj : isJn kd = true) (h15 : kd ≠ 15) (h40 : kd ≠ 40) (hl : isLk kd = false) : Ev B D i (l ++ (m ++ [(kd, n)])) (jnV kd x y) := fun S => by
  rw [rnL_app l _ S _ (h1 S), rnL_app m _ _ _ (h2 (x :: S))]
  show (match stV B D i kd n (y :: x :: S) with | none => none | some S' => some S') = _
  unfold stV
  rw [if_neg h15, if_neg h40, if_neg (by rw [hl]; decide), if_pos hj]
theorem Ev.nt {l : List (Nat × Nat)} {x : Int32} {n : Nat} (h1 : Ev B D i l x) : Ev B D i (l ++ [(15, n)]) (if x = 0 then nI 1 else nI 0) := fun S => by
  rw [rnL_app l _ S _ (h1 S)]
  show (match stV B D i 15 n (x :: S) with | none => none | some S' => some S') = _
  unfold stV
  rw [if_pos rfl]
theorem Ev.lf {l : ELf} (ok : okL la l) : Ev B D i (stO (lfC l)) (vLf B D i l) := by
  obtain ⟨so, n⟩ := l
  rcases ok with ⟨z, h2⟩ | ⟨z, h2⟩ | ⟨z | z, h2⟩ <;> (have z : so = _ := z; subst z)
  · exact Ev.nu n
  · have h2 : n < 3 := h2
    rcases (by omega : n = 0 ∨ n = 1 ∨ n = 2) with rfl | rfl | rfl
    · exact Ev.lk (kd := 20) rfl (by decide) (by decide)
    · exact Ev.lk (kd := 22) rfl (by decide) (by decide)
    · exact Ev.lk (kd := 23) rfl (by decide) (by decide)
  · exact Ev.lk (kd := 21) rfl (by decide) (by decide)
  · exact Ev.lk (kd := 2) rfl (by decide) (by decide)
theorem sg_jn : ∀ s, 4 ≤ s → s ≤ 9 → isJn (sgK s) = true ∧ sgK s ≠ 15 ∧ sgK s ≠ 40 ∧ isLk (sgK s) = false := by
  intro s h1 h2
  rcases (by omega : s = 4 ∨ s = 5 ∨ s = 6 ∨ s = 7 ∨ s = 8 ∨ s = 9) with rfl | rfl | rfl | rfl | rfl | rfl <;> decide
theorem Ev.va {e : EVa} (ok : okV la e) : Ev B D i (stO (vaC e)) (vVa B D i e) := by
  match e, ok with
  | .inl l, ok => exact Ev.lf ok
  | .inr (s, l, m), ⟨⟨h1, h2⟩, ok1, ok2⟩ =>
    obtain ⟨j1, j2, j3, j4⟩ := sg_jn s h1 (by omega)
    show Ev B D i (stO (lfC l ++ (lfC m ++ [(0, sgK s, 0)]))) _
    rw [stO_app, stO_app]
    exact Ev.jn (Ev.lf ok1) (Ev.lf ok2) j1 j2 j3 j4
theorem Ev.t0 {e : ET0} (ok : ok0 la e) : Ev B D i (stO (t0C e)) (vT0 B D i e) := by
  match e, ok with
  | .inl (k, l), ⟨hk, hl⟩ =>
    rcases hk with rfl | rfl
    · exact Ev.lk (kd := 18) rfl (by decide) (by decide)
    · exact Ev.lk (kd := 19) rfl (by decide) (by decide)
  | .inr (s, e, l), ⟨⟨h1, h2⟩, ok1, ok2⟩ =>
    obtain ⟨j1, j2, j3, j4⟩ := sg_jn s (by omega) h2
    show Ev B D i (stO (vaC e ++ (lfC l ++ [(0, sgK s, 0)]))) _
    rw [stO_app, stO_app]
    exact Ev.jn (Ev.va ok1) (Ev.lf ok2) j1 j2 j3 j4
theorem Ev.t1 {e : ET1} (ok : ok1T la e) : Ev B D i (stO (t1C e)) (vT1 B D i e) := by
  match e, ok with
  | .inl t, ok => exact Ev.t0 ok
  | .inr (s, t, u), ⟨hs, ok1, ok2⟩ =>
    by_cases z : s = 12
    · have e1 : t1C (.inr (s, t, u)) = t0C t ++ [(0, 15, 0)] := if_pos z
      have e2 : vT1 B D i (.inr (s, t, u)) = if vT0 B D i t = 0 then nI 1 else nI 0 := if_pos z
      rw [e1, e2, stO_app]
      exact Ev.nt (Ev.t0 ok1)
    · have e1 : t1C (.inr (s, t, u)) = t0C t ++ (t0C u ++ [(0, if s = 13 then 16 else 17, 0)]) := if_neg z
      have e2 : vT1 B D i (.inr (s, t, u)) = jnV (if s = 13 then 16 else 17) (vT0 B D i t) (vT0 B D i u) := if_neg z
      rw [e1, e2, stO_app, stO_app]
      by_cases y : s = 13
      · rw [if_pos y]
        exact Ev.jn (Ev.t0 ok1) (Ev.t0 ok2) rfl (by decide) (by decide) rfl
      · rw [if_neg y]
        exact Ev.jn (Ev.t0 ok1) (Ev.t0 ok2) rfl (by decide) (by decide) rfl
/-- what an act does -/
def acN (so : Nat) : Nat := if so = 0 then 9 else if so = 1 then 11 else if so = 2 then 12 else if so = 3 then 13 else 14
def doA (B : BK) (i : Nat) (D : DY) (a : EAc) : DY := doV B i (acN a.1) a.2.1 (if a.1 = 0 then vVa B D i a.2.2 else 0) D
theorem ra_at {l : List (Nat × Nat)} {a : Nat} {x : Int32} {S : List Int32} (h : StAt B a l) (e : Ev B D i l x) : raV B i a l.length D S = some (D, x :: S) ∧ acC B a l.length = 0 := by
  refine raV_rn l.length a S (x :: S) ?_
  rw [rn_at l a S h]
  exact e S
theorem StAt.l {a : Nat} {l m : List (Nat × Nat)} (h : StAt B a (l ++ m)) : StAt B a l ∧ StAt B (a + l.length) m := by
  obtain ⟨h1, h2⟩ := h
  rw [List.length_append] at h1
  refine ⟨⟨by omega, fun j hj => ?_⟩, ⟨by omega, fun j hj => ?_⟩⟩
  · have := h2 j (by rw [List.length_append]; omega)
    rw [List.getElem_append_left hj] at this
    exact this
  · have := h2 (l.length + j) (by rw [List.length_append]; omega)
    rw [List.getElem_append_right (by omega), ← Nat.add_assoc] at this
    simp only [Nat.add_sub_cancel_left] at this
    exact this
theorem ra_one {a kd n : Nat} (h : StAt B a [(kd, n)]) (hk : kd = 11 ∨ kd = 12 ∨ kd = 13 ∨ kd = 14) (S : List Int32) : raV B i a 1 D S = some (doV B i kd n 0 D, S) ∧ acC B a 1 = 1 := by
  obtain ⟨⟨e1, e2⟩, -⟩ := h.tl
  have e1 : cKd B a = kd := e1
  have e2 : cNu B a = n := e2
  have ia : isAc kd = true := by rcases hk with rfl | rfl | rfl | rfl <;> rfl
  refine ⟨?_, ?_⟩
  · rw [raV_s (m := 0) (D1 := doV B i kd n 0 D) (S1 := S)]
    · rfl
    · rw [e1, e2]
      unfold acV
      rw [if_pos ia, if_neg (by omega)]
  · show (if isAc (cKd B a) = true then 1 else 0) + 0 = 1
    rw [e1, if_pos ia]
theorem ra_act {e : EAc} {a : Nat} (ok : okAc la ja e) (h : StAt B a (stO (acO e))) : raV B i a (stO (acO e)).length D [] = some (doA B i D e, []) ∧ acC B a (stO (acO e)).length = 1 := by
  obtain ⟨so, w, v⟩ := e
  obtain ⟨o1, o2, o3, o4⟩ := ok
  have o1 : so ≤ 4 := o1
  have o4 : okV la v := o4
  rcases (by omega : so = 0 ∨ so = 1 ∨ so = 2 ∨ so = 3 ∨ so = 4) with rfl | rfl | rfl | rfl | rfl
  · have es : stO (acO (0, w, v)) = stO (vaC v) ++ [(9, w)] := by
      show stO (vaC v ++ [(0, 9, w)]) = _
      rw [stO_app]
      rfl
    rw [es] at h ⊢
    obtain ⟨h1, h2⟩ := h.l
    obtain ⟨⟨e1, e2⟩, -⟩ := h2.tl
    have e1 : cKd B (a + (stO (vaC v)).length) = 9 := e1
    have e2 : cNu B (a + (stO (vaC v)).length) = w := e2
    obtain ⟨r1, r2⟩ := ra_at (D := D) (i := i) (S := []) h1 (Ev.va o4)
    have el : (stO (vaC v) ++ [(9, w)]).length = (stO (vaC v)).length + 1 := by rw [List.length_append]; rfl
    rw [el, raV_add _ _ _ _ _ _ _ r1, acC_add, r2]
    refine ⟨?_, ?_⟩
    · rw [raV_s (m := 0) (D1 := doA B i D (0, w, v)) (S1 := [])]
      · rfl
      · rw [e1, e2]
        rfl
    · show 0 + ((if isAc (cKd B _) = true then 1 else 0) + 0) = 1
      rw [e1]
      rfl
  · exact ra_one h (Or.inl rfl) []
  · have := ra_one (D := D) (i := i) h (Or.inr (Or.inl rfl)) []
    exact ⟨this.1, this.2⟩
  · exact ra_one h (Or.inr (Or.inr (Or.inl rfl))) []
  · have := ra_one (D := D) (i := i) h (Or.inr (Or.inr (Or.inr rfl))) []
    exact ⟨this.1, this.2⟩
theorem ra_acts : ∀ (s : List EAc) (a : Nat) (D : DY), (∀ e ∈ s, okAc la ja e) → StAt B a (stO (asO s)) → raV B i a (stO (asO s)).length D [] = some (s.foldl (doA B i) D, []) ∧ acC B a (stO (asO s)).length = s.length
  | [], _, _, _, _ => ⟨rfl, rfl⟩
  | e :: s, a, D, ok, h => by
    have es : stO (asO (e :: s)) = stO (acO e) ++ stO (asO s) := stO_app _ _
    rw [es] at h ⊢
    obtain ⟨h1, h2⟩ := h.l
    obtain ⟨r1, r2⟩ := ra_act (D := D) (i := i) (ok e List.mem_cons_self) h1
    obtain ⟨r3, r4⟩ := ra_acts s (a + (stO (acO e)).length) (doA B i D e) (fun x hx => ok x (List.mem_cons_of_mem _ hx)) h2
    rw [List.length_append, raV_add _ _ _ _ _ _ _ r1, acC_add, r2, r4]
    refine ⟨r3, ?_⟩
    rw [List.length_cons]
    omega
/-- a lid's turn, by its rules -/
def ldL (B : BK) (i : Nat) (D : DY) : List ERu → DY × Nat
  | [] => (D, 0)
  | r :: s => if vT1 B D i r.1 = 0 then ldL B i D s else (r.2.foldl (doA B i) D, r.2.length)
theorem tv_ru {r : Nat} {e : ERu} (ok : okRu la ja e) (h : RuAt B r e) : tvV B D i r = vT1 B D i e.1 := by
  obtain ⟨h1, h2, h3, h4⟩ := h
  have e1 : cTn B r - cTe B r = (stO (t1C e.1)).length := by omega
  have e2 : rnV B D i (cTe B r) (stO (t1C e.1)).length [] = some [vT1 B D i e.1] := by
    rw [rn_at _ _ _ h3]
    exact Ev.t1 ok.1 []
  unfold tvV
  rw [e1, e2]
theorem ld_aux : ∀ (rs : List ERu) (a : Nat), (∀ e ∈ rs, okRu la ja e) → (∀ k (hk : k < rs.length), RuAt B (a + k) rs[k]) → (match rfN B D i a rs.length with
    | none => (D, 0)
    | some r => match raV B i (cTn B r) (cAe B r - cTn B r) D [] with
      | none => (D, 0)
      | some q => (q.1, acC B (cTn B r) (cAe B r - cTn B r))) = ldL B i D rs
  | [], _, _, _ => rfl
  | e :: s, a, ok, h => by
    have h0 : RuAt B a e := h 0 (Nat.zero_lt_succ _)
    have o := ok e List.mem_cons_self
    have tv := tv_ru (D := D) (i := i) o h0
    have es : rfN B D i a (e :: s).length = if tvV B D i a = 0 then rfN B D i (a + 1) s.length else some a := rfl
    rw [es, tv]
    show _ = if vT1 B D i e.1 = 0 then ldL B i D s else (e.2.foldl (doA B i) D, e.2.length)
    by_cases z : vT1 B D i e.1 = 0
    · rw [if_pos z, if_pos z]
      refine ld_aux s (a + 1) (fun x hx => ok x (List.mem_cons_of_mem _ hx)) (fun k hk => ?_)
      have := h (k + 1) (Nat.succ_lt_succ hk)
      rw [show a + (k + 1) = a + 1 + k by omega] at this
      exact this
    · rw [if_neg z, if_neg z]
      obtain ⟨h1, h2, h3, h4⟩ := h0
      obtain ⟨r1, r2⟩ := ra_acts (i := i) e.2 (cTn B a) D o.2.2 h4
      have e1 : cAe B a - cTn B a = (stO (asO e.2)).length := by omega
      show (match raV B i (cTn B a) (cAe B a - cTn B a) D [] with | none => (D, 0) | some q => (q.1, acC B (cTn B a) (cAe B a - cTn B a))) = _
      rw [e1, r1, r2]
theorem ld_law {rs : List ERu} (ok : ∀ e ∈ rs, okRu la ja e) (h : LiAt B i rs) : ldV B i D = ldL B i D rs := by
  obtain ⟨h1, h2, h3⟩ := h
  have := ld_aux (D := D) (i := i) rs (bRu B i).1 ok h3
  unfold ldV rfD
  rw [show (bRu B i).2 - (bRu B i).1 = rs.length by omega]
  exact this
/-- tests are 0 or 1 -/
theorem lk_bl {kd n : Nat} (h : kd = 18 ∨ kd = 19) : lkV B D i kd n = nI 0 ∨ lkV B D i kd n = nI 1 := by
  unfold lkV
  rcases h with rfl | rfl
  · rw [if_neg (by decide), if_neg (by decide), if_neg (by decide), if_neg (by decide), if_neg (by decide), if_pos rfl]
    split
    · exact Or.inr rfl
    · exact Or.inl rfl
  · rw [if_neg (by decide), if_neg (by decide), if_neg (by decide), if_neg (by decide), if_neg (by decide), if_neg (by decide)]
    split
    · exact Or.inr rfl
    · exact Or.inl rfl
theorem jn_bl {s : Nat} {x y : Int32} (h1 : 7 ≤ s) (h2 : s ≤ 9) : jnV (sgK s) x y = nI 0 ∨ jnV (sgK s) x y = nI 1 := by
  rcases (by omega : s = 7 ∨ s = 8 ∨ s = 9) with rfl | rfl | rfl
  · show (if x < y then nI 1 else nI 0) = nI 0 ∨ (if x < y then nI 1 else nI 0) = nI 1
    split
    · exact Or.inr rfl
    · exact Or.inl rfl
  · show (if y < x then nI 1 else nI 0) = nI 0 ∨ (if y < x then nI 1 else nI 0) = nI 1
    split
    · exact Or.inr rfl
    · exact Or.inl rfl
  · show (if x = y then nI 1 else nI 0) = nI 0 ∨ (if x = y then nI 1 else nI 0) = nI 1
    split
    · exact Or.inr rfl
    · exact Or.inl rfl
theorem t0_bl {e : ET0} (ok : ok0 la e) : vT0 B D i e = nI 0 ∨ vT0 B D i e = nI 1 := by
  match e, ok with
  | .inl (k, l), ⟨hk, hl⟩ => exact lk_bl (Or.elim (Decidable.em (k = 10)) (fun z => Or.inl (if_pos z)) (fun z => Or.inr (if_neg z)))
  | .inr (s, e, l), ⟨⟨h1, h2⟩, ok1, ok2⟩ => exact jn_bl h1 h2
end EV
