/-! PURE PICTURES: what a jar's beans come to; whom a label follows in the end -/
/-- a sum -/
def su (f : Nat → Nat) : Nat → Nat
  | 0 => 0
  | n + 1 => su f n + f n
theorem su_congr {f g : Nat → Nat} : ∀ {n : Nat}, (∀ i, i < n → f i = g i) → su f n = su g n
  | 0, _ => rfl
  | n + 1, h => by
    show su f n + f n = su g n + g n
    rw [su_congr (fun i hi => h i (by omega)), h n (by omega)]
/-- the end of a chain of at most n links -/
def rtn (f : Nat → Option Nat) : Nat → Nat → Nat
  | 0, k => k
  | n + 1, k => match f k with
    | none => k
    | some j => rtn f n j
/-- the leader -/
def rt (f : Nat → Option Nat) (k : Nat) : Nat := rtn f 6 k
/-- beans of the alliance that k leads -/
def po (r : Nat → Nat) (b : Nat → Nat) (k : Nat) : Nat := su (fun i => if r i = k then b i else 0) 6
/-- the first one with the most, of the first n; none if all are 0 -/
def fiN (p : Nat → Nat) : Nat → Option Nat
  | 0 => none
  | n + 1 => match fiN p n with
    | none => if 0 < p n then some n else none
    | some k => if p k < p n then some n else some k
/-- the most of the others -/
def sec (p : Nat → Nat) (f : Option Nat) : Nat → Nat
  | 0 => 0
  | n + 1 => if f = some n then sec p f n else max (sec p f n) (p n)
def mar (p : Nat → Nat) : Nat := match fiN p 6 with
  | none => 0
  | some k => p k - sec p (some k) 6
/-- who gets the next seat by dividing -/
def bestD (p w : Nat → Nat) : Nat → Nat
  | 0 => 0
  | n + 1 => if p (bestD p w n) * (w n + 1) < p n * (w (bestD p w n) + 1) then n else bestD p w n
def dvN (p : Nat → Nat) : Nat → Nat → Nat
  | 0 => fun _ => 0
  | s + 1 => fun k => if k = bestD p (dvN p s) 6 then dvN p s k + 1 else dvN p s k
/-- seats that are left over go one by one to who has the most left -/
def quN : Nat → (Nat → Nat) × (Nat → Nat) → (Nat → Nat) × (Nat → Nat)
  | 0, q => q
  | s + 1, q => match fiN q.2 6 with
    | none => q
    | some k => quN s (fun i => if i = k then q.1 i + 1 else q.1 i, fun i => if i = k then 0 else q.2 i)
def quo (p : Nat → Nat) (t se : Nat) : Nat → Nat :=
  (quN (se - su (fun k => p k / (t / (se + 1) + 1)) 6) (fun k => p k / (t / (se + 1) + 1), fun k => p k - p k / (t / (se + 1) + 1) * (t / (se + 1) + 1))).1
/-- seats won; way 0: most, 1: divide, 2: quota -/
def wo (p : Nat → Nat) (t se wy : Nat) : Nat → Nat := match fiN p 6 with
  | none => fun _ => 0
  | some f => if wy = 0 then (fun k => if k = f then se else 0) else if wy = 1 then dvN p se else quo p t se
def oI (o : Option Nat) : Int32 := match o with
  | none => -1
  | some k => nI k
/-- an index that a call gives: in its range, or not -/
theorem ix_cases (a : Int32) {n : Nat} (hn : n < 2147483648) : (∃ j, j < n ∧ a = nI j) ∨ (a < 0 ∨ nI n ≤ a) := by
  by_cases h1 : a < 0
  · exact Or.inr (Or.inl h1)
  · by_cases h2 : nI n ≤ a
    · exact Or.inr (Or.inr h2)
    · have e1 : 0 ≤ a.toInt := by
        rw [Int32.lt_iff_toInt_lt] at h1
        have : (0 : Int32).toInt = 0 := rfl
        omega
      have e2 : a.toInt < n := by
        rw [Int32.le_iff_toInt_le, nI_toInt hn] at h2
        omega
      refine Or.inl ⟨a.toInt.toNat, by omega, ?_⟩
      apply Int32.toInt_inj.mp
      rw [nI_toInt (by omega)]
      omega
