/-! chains of labels that follow each other -/
theorem itn_no {F : Nat → Option Nat} {n k : Nat} (e : F k = none) : itn F (n + 1) k = none := by
  show (match F k with | none => none | some j => itn F n j) = none
  rw [e]
theorem itn_yes {F : Nat → Option Nat} {n k j : Nat} (e : F k = some j) : itn F (n + 1) k = itn F n j := by
  show (match F k with | none => none | some j => itn F n j) = itn F n j
  rw [e]
theorem rtn_no {F : Nat → Option Nat} {n k : Nat} (e : F k = none) : rtn F n k = k := by
  cases n with
  | zero => rfl
  | succ n =>
    show (match F k with | none => k | some j => rtn F n j) = k
    rw [e]
theorem rtn_yes {F : Nat → Option Nat} {n k j : Nat} (e : F k = some j) : rtn F (n + 1) k = rtn F n j := by
  show (match F k with | none => k | some j => rtn F n j) = rtn F n j
  rw [e]
theorem itn_next {F : Nat → Option Nat} : ∀ {n k j : Nat}, itn F n k = some j → itn F (n + 1) k = F j
  | 0, k, j, h => by
    cases h
    cases e : F k with
    | none => exact itn_no e
    | some j => exact itn_yes e
  | n + 1, k, j, h => by
    cases e : F k with
    | none =>
      rw [itn_no e] at h
      exact nomatch h
    | some i =>
      rw [itn_yes e] at h
      rw [itn_yes e]
      exact itn_next h
theorem itn_stop {F : Nat → Option Nat} : ∀ {n k : Nat}, itn F n k = none → itn F (n + 1) k = none
  | 0, _, h => nomatch h
  | n + 1, k, h => by
    cases e : F k with
    | none => exact itn_no e
    | some i =>
      rw [itn_yes e] at h
      rw [itn_yes e]
      exact itn_stop h
theorem itn_mono {F : Nat → Option Nat} {n k : Nat} (h : itn F n k = none) : ∀ m, n ≤ m → itn F m k = none
  | 0, q => by
    have e : n = 0 := by omega
    rw [e] at h
    exact h
  | m + 1, q => by
    by_cases e : n = m + 1
    · rw [← e]
      exact h
    · exact itn_stop (itn_mono h m (by omega))
theorem itn_end {F : Nat → Option Nat} : ∀ {n k : Nat}, F (rtn F n k) = none ↔ itn F (n + 1) k = none
  | 0, k => ⟨fun h => itn_no h, fun h => by
    cases e : F k with
    | none => exact e
    | some i =>
      rw [itn_yes e] at h
      exact nomatch h⟩
  | n + 1, k => by
    cases e : F k with
    | none =>
      rw [rtn_no e, itn_no e]
      exact ⟨fun _ => rfl, fun _ => e⟩
    | some i =>
      rw [rtn_yes e, itn_yes e]
      exact itn_end
theorem rtn_next {F : Nat → Option Nat} : ∀ {n k : Nat}, rtn F (n + 1) k = match F (rtn F n k) with | none => rtn F n k | some j => j
  | 0, k => by
    cases e : F k with
    | none =>
      rw [rtn_no e]
      show k = match F k with | none => k | some j => j
      rw [e]
    | some i =>
      rw [rtn_yes e]
      show i = match F k with | none => k | some j => j
      rw [e]
  | n + 1, k => by
    cases e : F k with
    | none =>
      rw [rtn_no e, rtn_no e]
      show k = match F k with | none => k | some j => j
      rw [e]
    | some i =>
      rw [rtn_yes e, rtn_yes e]
      exact rtn_next
theorem rtn_done {F : Nat → Option Nat} {n k : Nat} (h : F (rtn F n k) = none) : ∀ m, n ≤ m → rtn F m k = rtn F n k
  | 0, q => by
    have e : n = 0 := by omega
    rw [e]
  | m + 1, q => by
    by_cases e : n = m + 1
    · rw [e]
    · have e2 := rtn_done h m (by omega)
      rw [rtn_next, e2, h]
/-- of n + 1 numbers below n two are the same -/
theorem pig : ∀ (n : Nat) (f : Nat → Nat), (∀ i, i ≤ n → f i < n) → ∃ i j, i < j ∧ j ≤ n ∧ f i = f j
  | 0, f, h => absurd (h 0 (Nat.le_refl _)) (Nat.not_lt_zero _)
  | n + 1, f, h => by
    by_cases c : ∃ i, i ≤ n ∧ f i = f (n + 1)
    · obtain ⟨i, h1, h2⟩ := c
      exact ⟨i, n + 1, by omega, Nat.le_refl _, h2⟩
    · have c2 : ∀ i, i ≤ n → ¬ f i = f (n + 1) := fun i h1 h2 => c ⟨i, h1, h2⟩
      have v := h (n + 1) (Nat.le_refl _)
      obtain ⟨i, j, h1, h2, h3⟩ := pig n (fun i => if f i = n then f (n + 1) else f i) (fun i hi => by
        have a := h i (by omega)
        have b := c2 i hi
        show (if f i = n then f (n + 1) else f i) < n
        by_cases e : f i = n
        · rw [if_pos e]
          omega
        · rw [if_neg e]
          omega)
      have h3 : (if f i = n then f (n + 1) else f i) = (if f j = n then f (n + 1) else f j) := h3
      have b1 := c2 i (by omega)
      have b2 := c2 j h2
      refine ⟨i, j, h1, by omega, ?_⟩
      by_cases e1 : f i = n
      · by_cases e2 : f j = n
        · omega
        · rw [if_pos e1, if_neg e2] at h3
          exact absurd h3.symm b2
      · by_cases e2 : f j = n
        · rw [if_neg e1, if_pos e2] at h3
          exact absurd h3 b1
        · rw [if_neg e1, if_neg e2] at h3
          exact h3
theorem su_head {f : Nat → Nat} : ∀ n, su f (n + 1) = f 0 + su (fun i => f (i + 1)) n
  | 0 => by
    show 0 + f 0 = f 0 + 0
    omega
  | n + 1 => by
    show su f (n + 1) + f (n + 1) = f 0 + (su (fun i => f (i + 1)) n + f (n + 1))
    rw [su_head n]
    omega
theorem rank_of {F : Nat → Option Nat} (h : ∀ k, k < 6 → F (rt F k) = none) : ∃ R : Nat → Nat, ∀ k j, k < 6 → F k = some j → R j < R k := by
  refine ⟨fun k => su (fun n => if itn F n k = none then 0 else 1) 7, fun k j hk e => ?_⟩
  have e7 : itn F 7 k = none := itn_end.mp (h k hk)
  rw [itn_yes e] at e7
  have a : su (fun n => if itn F n k = none then 0 else 1) 7 = 1 + su (fun n => if itn F n j = none then 0 else 1) 6 := by
    rw [su_head 6]
    show 1 + su (fun n => if itn F (n + 1) k = none then 0 else 1) 6 = _
    rw [su_congr (fun i _ => by rw [itn_yes e])]
  have b : su (fun n => if itn F n j = none then 0 else 1) 7 = su (fun n => if itn F n j = none then 0 else 1) 6 + (if itn F 6 j = none then 0 else 1) := rfl
  rw [if_pos e7] at b
  show su (fun n => if itn F n j = none then 0 else 1) 7 < su (fun n => if itn F n k = none then 0 else 1) 7
  omega
theorem of_rank {F : Nat → Option Nat} (hF : ∀ k j, k < 6 → F k = some j → j < 6) {R : Nat → Nat} (hR : ∀ k j, k < 6 → F k = some j → R j < R k) {k : Nat} (hk : k < 6) : itn F 6 k = none := by
  cases e6 : itn F 6 k with
  | none => rfl
  | some z =>
    exfalso
    have some_ : ∀ i, i ≤ 6 → ∃ a, itn F i k = some a := fun i hi => by
      cases e : itn F i k with
      | none =>
        rw [itn_mono e 6 hi] at e6
        exact nomatch e6
      | some a => exact ⟨a, rfl⟩
    have lt_ : ∀ i, i ≤ 6 → ∀ a, itn F i k = some a → a < 6 := fun i => by
      induction i with
      | zero =>
        intro _ a h
        cases h
        exact hk
      | succ i ih =>
        intro hi a h
        obtain ⟨b, hb⟩ := some_ i (by omega)
        rw [itn_next hb] at h
        exact hF b a (ih (by omega) b hb) h
    have dec_ : ∀ m i, i + m ≤ 6 → ∀ a b, itn F i k = some a → itn F (i + m) k = some b → R b + m ≤ R a := fun m => by
      induction m with
      | zero =>
        intro i _ a b h1 h2
        rw [Nat.add_zero, h1] at h2
        cases h2
        exact Nat.le_refl _
      | succ m ih =>
        intro i hi a b h1 h2
        obtain ⟨c, hc⟩ := some_ (i + m) (by omega)
        have h3 := ih i (by omega) a c h1 hc
        have h2 : itn F (i + m + 1) k = some b := h2
        rw [itn_next hc] at h2
        have h4 := hR c b (lt_ (i + m) (by omega) c hc) h2
        omega
    obtain ⟨i, j, h1, h2, h3⟩ := pig 6 (fun i => (itn F i k).getD 0) (fun i hi => by
      obtain ⟨a, ha⟩ := some_ i hi
      show (itn F i k).getD 0 < 6
      rw [ha]
      exact lt_ i hi a ha)
    obtain ⟨a, ha⟩ := some_ i (by omega)
    obtain ⟨b, hb⟩ := some_ j h2
    have h3 : (itn F i k).getD 0 = (itn F j k).getD 0 := h3
    rw [ha, hb] at h3
    have h3 : a = b := h3
    have h4 := dec_ (j - i) i (by omega) a b ha (by rw [show i + (j - i) = j by omega]; exact hb)
    rw [h3] at h4
    omega
theorem thr_next {F : Nat → Option Nat} {l k j : Nat} (e : F k = some j) (hk : ¬ k = l) : thr F l k ↔ thr F l j := by
  constructor
  · intro h
    obtain ⟨n, h⟩ := h
    cases n with
    | zero =>
      cases h
      exact absurd rfl hk
    | succ n =>
      rw [itn_yes e] at h
      exact ⟨n, h⟩
  · intro h
    obtain ⟨n, h⟩ := h
    exact ⟨n + 1, by rw [itn_yes e]; exact h⟩
theorem fwF_ok {F : Nat → Option Nat} {l : Nat} {t : Option Nat} (hF : ∀ k j, k < 6 → F k = some j → j < 6) (h : ∀ k, k < 6 → F (rt F k) = none) (ht : ∀ j, t = some j → j < 6 ∧ ¬ thr F l j) : ∀ k, k < 6 → itn (fwF F l t) 6 k = none := by
  obtain ⟨R, hR⟩ := rank_of h
  have hF2 : ∀ k j, k < 6 → fwF F l t k = some j → j < 6 := fun k j hk e => by
    by_cases c : k = l
    · have e : t = some j := (if_pos c).symm.trans e
      exact (ht j e).1
    · have e : F k = some j := (if_neg c).symm.trans e
      exact hF k j hk e
  cases t with
  | none =>
    refine fun k hk => of_rank (R := R) hF2 (fun k j hk e => ?_) hk
    by_cases c : k = l
    · have e : none = some j := (if_pos c).symm.trans e
      exact nomatch e
    · have e : F k = some j := (if_neg c).symm.trans e
      exact hR k j hk e
  | some t =>
    obtain ⟨t6, tn⟩ := ht t rfl
    have cl := fun k => Classical.propDecidable (thr F l k)
    refine fun k hk => of_rank (R := fun k => R k + @ite Nat (thr F l k) (cl k) (R t + 1) 0) hF2 (fun k j hk e => ?_) hk
    show R j + @ite Nat (thr F l j) (cl j) (R t + 1) 0 < R k + @ite Nat (thr F l k) (cl k) (R t + 1) 0
    by_cases c : k = l
    · have e : some t = some j := (if_pos c).symm.trans e
      cases e
      rw [if_neg tn, if_pos ⟨0, by rw [c]; rfl⟩]
      omega
    · have e : F k = some j := (if_neg c).symm.trans e
      have r1 := hR k j hk e
      by_cases q : thr F l j
      · rw [if_pos q, if_pos ((thr_next e c).mpr q)]
        omega
      · rw [if_neg q, if_neg (fun z => q ((thr_next e c).mp z))]
        omega
theorem BDok.six {B : BK} {D : DY} (hb : BDok B D) : ∀ k j, k < 6 → dF D k = some j → j < 6 := fun k j hk e => Nat.lt_of_lt_of_le (hb.2.2.2.2.2.2.2.2.1 k j hk e).2 hb.1
theorem BDok.end6 {B : BK} {D : DY} (hb : BDok B D) {k : Nat} (hk : k < 6) : itn (dF D) 6 k = none := by
  obtain ⟨R, hR⟩ := rank_of hb.2.2.2.2.2.2.2.2.2.1
  exact of_rank hb.six hR hk
theorem BDok.fw {B : BK} {D : DY} (hb : BDok B D) {l : Nat} {t : Option Nat} (hl : l < bLa B) (ht : ∀ j, t = some j → j < bLa B ∧ ¬ thr (dF D) l j) : BDok B (fwD D l t) := by
  have l1 := hb.1
  refine ⟨hb.1, hb.2.1, hb.2.2.1, hb.2.2.2.1, hb.2.2.2.2.1, hb.2.2.2.2.2.1, hb.2.2.2.2.2.2.1, hb.2.2.2.2.2.2.2.1, fun k j hk e => ?_, fun k hk => ?_, hb.bs⟩
  · have e : fwF (dF D) l t k = some j := e
    by_cases c : k = l
    · have e : t = some j := (if_pos c).symm.trans e
      exact ⟨by omega, (ht j e).1⟩
    · have e : dF D k = some j := (if_neg c).symm.trans e
      exact hb.2.2.2.2.2.2.2.2.1 k j hk e
  · have e := fwF_ok hb.six hb.2.2.2.2.2.2.2.2.2.1 (fun j e => ⟨by have := (ht j e).1; omega, (ht j e).2⟩) k hk
    exact itn_end.mpr (itn_stop e)
theorem Sm.un {h h1 : AH} {lo hi x y : Nat} (sm : Sm h h1 lo hi) (e : y ≤ lo ∨ hi ≤ x) (e2 : y ≤ h.1) : Un h h1 x y := by
  rcases e with e | e
  · exact sm.2.2.1.sub (Nat.zero_le _) e
  · exact sm.2.2.2.sub e e2
theorem JaR.sm {h h1 : AH} {j se wy : Nat} {b r : Nat → Nat} {lo hi : Nat} (a : JaR h j b se wy r) (sm : Sm h h1 lo hi) (e : j + 5 ≤ lo ∨ hi ≤ j) : JaR h1 j b se wy r := by
  have l : j + 5 ≤ h.1 := by
    obtain ⟨bf, p, w, l, tu, fi, ma, co, ⟨-, -, -, -, b4⟩, -⟩ := a
    have := b4.1
    omega
  exact a.keep (Nat.le_of_eq sm.1.symm) (sm.un e l)
theorem JarE.sm {h h1 : AH} {j : Nat} {lo hi : Nat} (a : JarE h j) (sm : Sm h h1 lo hi) (e : j + 5 ≤ lo ∨ hi ≤ j) : JarE h1 j := by
  have l : j + 5 ≤ h.1 := by
    obtain ⟨bf, p, w, l, se, wy, tu, fi, ma, co, -, ⟨-, -, -, -, b4⟩⟩ := a
    have := b4.1
    omega
  exact a.keep (Nat.le_of_eq sm.1.symm) (sm.un e l)
theorem CuR.sm {h h1 : AH} {c : Nat} {B : BK} {D : DY} {lo hi : Nat} (a : CuR h c B D) (sm : Sm h h1 lo hi) (e : c + 45 ≤ lo ∨ hi ≤ c) : CuR h1 c B D := by
  have l : c + 45 ≤ h.1 := by
    obtain ⟨jf, lj, fo, le, -, -, -, -, -, -, -, -, -, a10⟩ := a
    obtain ⟨bf, p, w, l, tu, fi, ma, co, ⟨-, -, -, -, b4⟩, -⟩ := a10 7 (by decide)
    have := b4.1
    omega
  exact a.keep (Nat.le_of_eq sm.1.symm) (sm.un e l)
theorem JaR.E {h : AH} {j se wy : Nat} {b r : Nat → Nat} (a : JaR h j b se wy r) (hw : wy < 3) : JarE h j := by
  obtain ⟨bf, p, w, l, tu, fi, ma, co, a1, -⟩ := a
  exact ⟨bf, p, w, l, _, _, tu, fi, ma, co, by omega, a1⟩
theorem CuR.E {h : AH} {c : Nat} {B : BK} {D : DY} (a : CuR h c B D) (hb : BDok B D) : CupE h c (dDay D) := by
  obtain ⟨jf, lj, fo, le, a1, a2, a3, a4, a5, a6, a7, a8, a9, a10⟩ := a
  exact ⟨jf, lj, fo, le, a1, a2, a3, a4, a5, a6, fun i hi => (a10 i hi).E (hb.2.2.2.1 i hi).2⟩

