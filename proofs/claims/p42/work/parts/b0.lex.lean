/-! a text made of blanks and tokens is read back as these tokens -/
abbrev TE : Type := Nat ⊕ (Nat × Nat × List Nat)
/-- a byte's class: 0 a blank, 1 a letter, 2 a digit, 3 else -/
def lxC (c : Nat) : Nat := if c = 32 ∨ c = 10 then 0 else if 97 ≤ c ∧ c ≤ 122 then 1 else if 48 ≤ c ∧ c ≤ 57 then 2 else 3
def lxB : TE → List Nat
  | .inl c => [c]
  | .inr t => t.2.2
def lxG : TE → Nat
  | .inl _ => 0
  | .inr t => if t.1 = 40 then 2 else if t.1 = 39 ∨ t.1 < 27 then 1 else 3
def lxT : List TE → List Nat
  | [] => []
  | e :: s => lxB e ++ lxT s
def lxK : List TE → List (Nat × Nat)
  | [] => []
  | .inl _ :: s => lxK s
  | .inr t :: s => (t.1, t.2.1) :: lxK s
def wdB (b : List Nat) (k : Nat) : Nat := if (SBy.getD (TXl k) []).map (fun x => x.toInt.toNat) = b then 1 else 0
def kdB (b : List Nat) : Nat := match fnN (wdB b) 1 43 with
  | some k => k
  | none => if lxC (b.getD 0 0) = 1 ∧ b.length ≤ 8 then 39 else if lxC (b.getD 0 0) = 2 ∧ b.length ≤ 4 then 40 else 42
def okE (e : TE) : Prop := (∀ c ∈ lxB e, lxC c = lxG e) ∧ match e with
  | .inl _ => True
  | .inr t => t.2.2 ≠ [] ∧ kdB t.2.2 = t.1 ∧ t.1 < 41 ∧ vaT t.2.2 t.1 0 t.2.2.length = t.2.1 ∧ (lxG e = 3 → t.2.2.length = 1)
def okX : List TE → Prop
  | [] => True
  | e :: s => okE e ∧ (lxG e = 1 ∨ lxG e = 2 → ∀ e2 s2, s = e2 :: s2 → lxG e2 ≠ lxG e) ∧ okX s
theorem lxT_app (a b : List TE) : lxT (a ++ b) = lxT a ++ lxT b := by
  induction a with
  | nil => rfl
  | cons e s ih => show lxB e ++ lxT (s ++ b) = (lxB e ++ lxT s) ++ lxT b; rw [ih, List.append_assoc]
theorem lxK_app (a b : List TE) : lxK (a ++ b) = lxK a ++ lxK b := by
  induction a with
  | nil => rfl
  | cons e s ih =>
    match e with
    | .inl c => exact ih
    | .inr t => show (t.1, t.2.1) :: lxK (s ++ b) = (t.1, t.2.1) :: (lxK s ++ lxK b); rw [ih]
/-- a summary: none: ill made; else empty, or first and last classes -/
abbrev SMr : Type := Option (Option (Nat × Nat))
def cmS (a b : SMr) : SMr := match a, b with
  | some none, b => b
  | a, some none => a
  | some (some (f, l)), some (some (g, m)) => if (l = 1 ∧ g = 1) ∨ (l = 2 ∧ g = 2) then none else some (some (f, m))
  | _, _ => none
def smS : List TE → SMr
  | [] => some none
  | e :: s => cmS (some (some (lxG e, lxG e))) (smS s)
theorem cmS_none (a : SMr) : cmS a none = none := by
  rcases a with _ | _ | ⟨f, l⟩ <;> rfl
theorem cmS_l0 (b : SMr) : cmS (some none) b = b := by
  rcases b with _ | _ | ⟨f, l⟩ <;> rfl
theorem cmS_r0 (a : SMr) : cmS a (some none) = a := by
  rcases a with _ | _ | ⟨f, l⟩ <;> rfl
theorem cmS_n (b : SMr) : cmS none b = none := by
  rcases b with _ | _ | ⟨f, l⟩ <;> rfl
theorem cmS_assoc (a b c : SMr) : cmS (cmS a b) c = cmS a (cmS b c) := by
  rcases a with _ | _ | ⟨f, l⟩
  · rw [cmS_n, cmS_n, cmS_n]
  · rw [cmS_l0, cmS_l0]
  · rcases b with _ | _ | ⟨g, m⟩
    · rcases c with _ | _ | ⟨k, n⟩ <;> rfl
    · rw [cmS_r0, cmS_l0]
    · rcases c with _ | _ | ⟨k, n⟩
      · rw [cmS_none, cmS_none, cmS_none]
      · rw [cmS_r0, cmS_r0]
      · simp only [cmS]
        by_cases z : (l = 1 ∧ g = 1) ∨ (l = 2 ∧ g = 2)
        · rw [if_pos z]
          by_cases y : (m = 1 ∧ k = 1) ∨ (m = 2 ∧ k = 2)
          · rw [if_pos y]
          · rw [if_neg y]
            simp only [if_pos z]
        · rw [if_neg z]
          by_cases y : (m = 1 ∧ k = 1) ∨ (m = 2 ∧ k = 2)
          · rw [if_pos y]
            simp only [if_pos y]
          · rw [if_neg y]
            simp only [if_neg y, if_neg z]
theorem smS_app (a b : List TE) : smS (a ++ b) = cmS (smS a) (smS b) := by
  induction a with
  | nil => exact (cmS_l0 _).symm
  | cons e s ih =>
    show cmS _ (smS (s ++ b)) = cmS (cmS _ (smS s)) (smS b)
    rw [ih, cmS_assoc]
theorem smS_hd {e : TE} {s : List TE} {f l : Nat} (h : smS (e :: s) = some (some (f, l))) : f = lxG e := by
  have h : cmS (some (some (lxG e, lxG e))) (smS s) = some (some (f, l)) := h
  rcases e1 : smS s with _ | _ | ⟨g, m⟩
  · rw [e1] at h
    exact absurd h (by simp [cmS])
  · rw [e1, cmS_r0] at h
    simp only [Option.some.injEq, Prod.mk.injEq] at h
    exact h.1.symm
  · rw [e1] at h
    simp only [cmS] at h
    split at h
    · exact absurd h (by simp)
    · simp only [Option.some.injEq, Prod.mk.injEq] at h
      exact h.1.symm
theorem smS_ok : ∀ {l : List TE}, (∀ e ∈ l, okE e) → smS l ≠ none → okX l
  | [], _, _ => trivial
  | e :: s, h1, h2 => by
    have h2 : cmS (some (some (lxG e, lxG e))) (smS s) ≠ none := h2
    have h3 : smS s ≠ none := fun z => h2 (by rw [z, cmS_none])
    refine ⟨h1 e List.mem_cons_self, fun w e2 s2 es => ?_, smS_ok (fun b hb => h1 b (List.mem_cons_of_mem _ hb)) h3⟩
    subst es
    intro eq
    rcases e1 : smS (e2 :: s2) with _ | _ | ⟨g, m⟩
    · exact h3 e1
    · have : cmS (some (some (lxG e2, lxG e2))) (smS s2) = some none := e1
      rcases e3 : smS s2 with _ | _ | ⟨p, q⟩
      · rw [e3] at this; exact absurd this (by simp [cmS])
      · rw [e3, cmS_r0] at this; exact absurd this (by simp)
      · rw [e3] at this
        simp only [cmS] at this
        split at this <;> exact absurd this (by simp)
    · have eg := smS_hd e1
      rw [e1] at h2
      simp only [cmS] at h2
      rw [if_pos (by rw [eg, eq]; omega)] at h2
      exact h2 rfl
/-- scanning -/
theorem sc_run {T : List Nat} {f : Nat → Bool} : ∀ (n m p : Nat), m ≤ n → (∀ i, i < m → p + i < T.length ∧ f (p + i) = true) → ¬ (p + m < T.length ∧ f (p + m) = true) → scT T f n p = p + m
  | 0, m, p, h, _, _ => by
    have : m = 0 := by omega
    subst this
    rfl
  | n + 1, 0, p, _, _, h3 => if_neg h3
  | n + 1, m + 1, p, h, h2, h3 => by
    have e : scT T f (n + 1) p = scT T f n (p + 1) := if_pos (h2 0 (by omega))
    rw [e, sc_run n m (p + 1) (by omega) (fun i hi => by have := h2 (i + 1) (by omega); rw [show p + (i + 1) = p + 1 + i by omega] at this; exact this) (by rw [show p + 1 + m = p + (m + 1) by omega]; exact h3)]
    omega
theorem lxC_lt {T : List Nat} {p : Nat} (h : p < T.length) : (ltT T p = true ↔ lxC (T.getD p 0) = 1) ∧ (dgT T p = true ↔ lxC (T.getD p 0) = 2) ∧ (blT T p = true ↔ lxC (T.getD p 0) = 0) := by
  unfold ltT dgT blT byT lxC
  simp only [decide_eq_true_eq]
  refine ⟨?_, ?_, ?_⟩
  · split
    · omega
    · split
      · omega
      · split <;> omega
  · split
    · omega
    · split
      · omega
      · split <;> omega
  · split
    · rename_i z
      exact ⟨fun _ => rfl, fun _ => ⟨h, z⟩⟩
    · rename_i z
      split
      · exact ⟨fun q => absurd q.2 z, fun q => by omega⟩
      · split
        · exact ⟨fun q => absurd q.2 z, fun q => by omega⟩
        · exact ⟨fun q => absurd q.2 z, fun q => by omega⟩
theorem gdA {a b : List Nat} {i : Nat} : (a ++ b).getD (a.length + i) 0 = b.getD i 0 := by
  simp only [List.getD_eq_getElem?_getD]
  rw [List.getElem?_append_right (by omega), Nat.add_sub_cancel_left]
theorem gdL {a b : List Nat} {i : Nat} (h : i < a.length) : (a ++ b).getD i 0 = a.getD i 0 := by
  simp only [List.getD_eq_getElem?_getD]
  rw [List.getElem?_append_left h]
theorem gd_mem {a : List Nat} {i : Nat} (h : i < a.length) : a.getD i 0 ∈ a := by
  simp only [List.getD_eq_getElem?_getD, List.getElem?_eq_getElem h, Option.getD_some]
  exact List.getElem_mem h
theorem fnN_congr {f g : Nat → Nat} {v : Nat} : ∀ {n : Nat}, (∀ k, k < n → f k = g k) → fnN f v n = fnN g v n
  | 0, _ => rfl
  | n + 1, h => by
    simp only [fnN]
    rw [fnN_congr (n := n) (fun k hk => h k (by omega)), h n (by omega)]
theorem map_gd {l : List Int32} {i : Nat} (h : i < l.length) : (l.map (fun x => x.toInt.toNat)).getD i 0 = (l.getD i 0).toInt.toNat := by
  simp only [List.getD_eq_getElem?_getD, List.getElem?_map, List.getElem?_eq_getElem h]
  rfl
theorem gd_get {l : List Nat} {i : Nat} (h : i < l.length) : l.getD i 0 = l[i] := by
  rw [List.getD_eq_getElem?_getD, List.getElem?_eq_getElem h]
  rfl
theorem tby_m {k i : Nat} (h : i < tln k) : tby k i = ((SBy.getD k []).map (fun x => x.toInt.toNat)).getD i 0 := (map_gd h).symm
theorem wd_eq {T pre b r : List Nat} (e : T = pre ++ (b ++ r)) {k : Nat} : wdT T pre.length (pre.length + b.length) k = wdB b k := by
  have hk : (SBy.getD (TXl k) []).length = tln (TXl k) := rfl
  have key : rdT T (TXl k) pre.length (pre.length + b.length) = true ↔ (SBy.getD (TXl k) []).map (fun x => x.toInt.toNat) = b := by
    unfold rdT
    rw [decide_eq_true_eq]
    constructor
    · rintro ⟨h1, h2⟩
      apply List.ext_getElem
      · rw [List.length_map, hk, h1]; omega
      · intro i i1 i2
        rw [List.length_map, hk] at i1
        obtain ⟨-, h3⟩ := h2 i i1
        rw [e, gdA, gdL i2, tby_m i1] at h3
        exact (gd_get _).symm.trans (h3.symm.trans (gd_get i2))
    · intro h
      subst h
      refine ⟨by rw [List.length_map, hk]; omega, fun i hi => ⟨?_, ?_⟩⟩
      · rw [e]
        simp only [List.length_append, List.length_map, hk]
        omega
      · rw [e, gdA, gdL (by rw [List.length_map, hk]; exact hi)]
        exact (tby_m hi).symm
  unfold wdT wdB
  by_cases z : (SBy.getD (TXl k) []).map (fun x => x.toInt.toNat) = b
  · rw [if_pos z, if_pos (key.mpr z)]
  · rw [if_neg z, if_neg (fun q => z (key.mp q))]
theorem ki_eq {T pre b r : List Nat} (e : T = pre ++ (b ++ r)) (hb : b ≠ []) : kiT T pre.length (pre.length + b.length) = kdB b := by
  have hl : 0 < b.length := List.length_pos_iff.mpr hb
  have hp : pre.length < T.length := by rw [e]; simp only [List.length_append]; omega
  have h0 : T.getD pre.length 0 = b.getD 0 0 := by
    have := gdA (a := pre) (b := b ++ r) (i := 0)
    rw [Nat.add_zero] at this
    rw [e, this, gdL hl]
  obtain ⟨l1, l2, -⟩ := lxC_lt hp
  rw [h0] at l1 l2
  unfold kiT kdB
  rw [if_neg (by omega), fnN_congr (g := wdB b) (fun k _ => wd_eq e)]
  cases fnN (wdB b) 1 43 with
  | some k => rfl
  | none =>
    show (if ltT T pre.length = true ∧ pre.length + b.length - pre.length ≤ 8 then 39 else if dgT T pre.length = true ∧ pre.length + b.length - pre.length ≤ 4 then 40 else 42) = _
    rw [show pre.length + b.length - pre.length = b.length by omega]
    by_cases z1 : lxC (b.getD 0 0) = 1 ∧ b.length ≤ 8
    · rw [if_pos z1, if_pos ⟨l1.mpr z1.1, z1.2⟩]
    · rw [if_neg z1, if_neg (fun q => z1 ⟨l1.mp q.1, q.2⟩)]
      by_cases z2 : lxC (b.getD 0 0) = 2 ∧ b.length ≤ 4
      · rw [if_pos z2, if_pos ⟨l2.mpr z2.1, z2.2⟩]
      · rw [if_neg z2, if_neg (fun q => z2 ⟨l2.mp q.1, q.2⟩)]
theorem vn_eq {T b : List Nat} {p : Nat} : ∀ {n : Nat}, (∀ i, i < n → T.getD (p + i) 0 = b.getD i 0) → vnT T p n = vnT b 0 n ∧ vdT T p n = vdT b 0 n
  | 0, _ => ⟨rfl, rfl⟩
  | n + 1, h => by
    obtain ⟨h1, h2⟩ := vn_eq (n := n) (fun i hi => h i (by omega))
    have h3 := h n (by omega)
    refine ⟨?_, ?_⟩
    · show vnT T p n * 32 + (T.getD (p + n) 0 - 97) + 1 = vnT b 0 n * 32 + (b.getD (0 + n) 0 - 97) + 1
      rw [h1, h3, Nat.zero_add]
    · show vdT T p n * 10 + (T.getD (p + n) 0 - 48) = vdT b 0 n * 10 + (b.getD (0 + n) 0 - 48)
      rw [h2, h3, Nat.zero_add]
theorem va_eq {T pre b r : List Nat} (e : T = pre ++ (b ++ r)) (kd : Nat) : vaT T kd pre.length (pre.length + b.length) = vaT b kd 0 b.length := by
  have h : ∀ i, i < b.length → T.getD (pre.length + i) 0 = b.getD i 0 := fun i hi => by rw [e, gdA, gdL hi]
  obtain ⟨h1, h2⟩ := vn_eq (T := T) (b := b) h
  unfold vaT
  rw [show pre.length + b.length - pre.length = b.length by omega, Nat.sub_zero, h1, h2]
theorem en_eq {T pre : List Nat} {e : TE} {s : List TE} (hT : T = pre ++ (lxB e ++ lxT s)) (h1600 : T.length ≤ 1600) (ok : okX (e :: s)) (ht : lxG e ≠ 0) : enT T pre.length = pre.length + (lxB e).length := by
  obtain ⟨⟨o1, o2⟩, o3, o4⟩ := ok
  match e, o1, o2, o3, hT, ht with
  | .inl c, _, _, _, _, ht => exact absurd rfl ht
  | .inr (k, v, b), o1, ⟨q1, q2, q3, q4, q5⟩, o3, hT, ht =>
    have q1 : b ≠ [] := q1
    have hT : T = pre ++ (b ++ lxT s) := hT
    have o1 : ∀ c ∈ b, lxC c = lxG (.inr (k, v, b)) := o1
    show enT T pre.length = pre.length + b.length
    have hl : 0 < b.length := List.length_pos_iff.mpr q1
    have hp : pre.length + b.length ≤ T.length := by rw [hT]; simp only [List.length_append]; omega
    have hg : ∀ i, i < b.length → T.getD (pre.length + i) 0 = b.getD i 0 := fun i hi => by rw [hT, gdA, gdL hi]
    have hc : ∀ i, i < b.length → lxC (T.getD (pre.length + i) 0) = lxG (.inr (k, v, b)) := fun i hi => by rw [hg i hi]; exact o1 _ (gd_mem hi)
    have h0 := hc 0 hl
    rw [Nat.add_zero] at h0
    obtain ⟨l1, l2, l3⟩ := lxC_lt (T := T) (p := pre.length) (by omega)
    -- what follows
    have hn : lxG (.inr (k, v, b)) = 1 ∨ lxG (.inr (k, v, b)) = 2 → pre.length + b.length < T.length → lxC (T.getD (pre.length + b.length) 0) ≠ lxG (.inr (k, v, b)) := by
      intro w hlt
      match s, o3, o4, hT with
      | [], _, _, hT =>
        rw [hT] at hlt
        simp only [List.length_append, lxT, List.length_nil] at hlt
        omega
      | e2 :: s2, o3, o4, hT =>
        have n2 := o3 w e2 s2 rfl
        have nb : lxB e2 ≠ [] := by
          match e2, o4 with
          | .inl c, _ => exact List.cons_ne_nil _ _
          | .inr t, ⟨⟨_, r1, _⟩, _⟩ => exact r1
        have l2' : 0 < (lxB e2).length := List.length_pos_iff.mpr nb
        have e9 : T.getD (pre.length + b.length) 0 = (lxB e2).getD 0 0 := by
          have hT : T = pre ++ (b ++ (lxB e2 ++ lxT s2)) := hT
          rw [hT, gdA]
          have := gdA (a := b) (b := lxB e2 ++ lxT s2) (i := 0)
          rw [Nat.add_zero] at this
          rw [this, gdL l2']
        rw [e9, o4.1.1 _ (gd_mem l2')]
        exact n2
    have g3 : lxG (.inr (k, v, b)) = 1 ∨ lxG (.inr (k, v, b)) = 2 ∨ lxG (.inr (k, v, b)) = 3 := by
      show (if k = 40 then 2 else if k = 39 ∨ k < 27 then 1 else 3) = 1 ∨ (if k = 40 then 2 else if k = 39 ∨ k < 27 then 1 else 3) = 2 ∨ (if k = 40 then 2 else if k = 39 ∨ k < 27 then 1 else 3) = 3
      split
      · omega
      · split <;> omega
    unfold enT
    rcases g3 with g | g | g
    · rw [if_pos (l1.mpr (h0.trans g))]
      rw [sc_run 1600 (b.length - 1) (pre.length + 1) (by omega) (fun i hi => ?_) (fun q => ?_)]
      · omega
      · have hlt : pre.length + 1 + i < T.length := by omega
        refine ⟨hlt, ((lxC_lt hlt).1).mpr ?_⟩
        rw [show pre.length + 1 + i = pre.length + (i + 1) by omega, hc (i + 1) (by omega), g]
      · rw [show pre.length + 1 + (b.length - 1) = pre.length + b.length by omega] at q
        exact hn (Or.inl g) q.1 ((((lxC_lt q.1).1).mp q.2).trans g.symm)
    · rw [if_neg (fun q => by have := l1.mp q; rw [h0, g] at this; omega), if_pos (l2.mpr (h0.trans g))]
      rw [sc_run 1600 (b.length - 1) (pre.length + 1) (by omega) (fun i hi => ?_) (fun q => ?_)]
      · omega
      · have hlt : pre.length + 1 + i < T.length := by omega
        refine ⟨hlt, ((lxC_lt hlt).2.1).mpr ?_⟩
        rw [show pre.length + 1 + i = pre.length + (i + 1) by omega, hc (i + 1) (by omega), g]
      · rw [show pre.length + 1 + (b.length - 1) = pre.length + b.length by omega] at q
        exact hn (Or.inr g) q.1 ((((lxC_lt q.1).2.1).mp q.2).trans g.symm)
    · rw [if_neg (fun q => by have := l1.mp q; rw [h0, g] at this; omega), if_neg (fun q => by have := l2.mp q; rw [h0, g] at this; omega)]
      have := q5 g
      have this : b.length = 1 := this
      omega
/-- THE LEXER: from the k-th token on -/
theorem lx_main {T : List Nat} (h1600 : T.length ≤ 1600) : ∀ (l : List TE) (pre : List Nat) (k q : Nat), okX l → T = pre ++ lxT l → poT T k = q → q ≤ pre.length → (∀ i, q ≤ i → i < pre.length → lxC (T.getD i 0) = 0) → k + (lxK l).length ≤ 400 → (∀ j (hj : j < (lxK l).length), kkT T (k + j) = ((lxK l)[j]).1 ∧ vvK T (k + j) = ((lxK l)[j]).2) ∧ kkT T (k + (lxK l).length) = 41
  | [], pre, k, q, _, hT, hk, hq, hb, h400 => by
    have hT : T = pre := by rw [hT]; exact List.append_nil pre
    refine ⟨fun j hj => absurd hj (Nat.not_lt_zero j), ?_⟩
    have e1 : stT T k = T.length := by
      show skT T (poT T k) = _
      rw [hk]
      unfold skT
      rw [sc_run 1600 (T.length - q) q (by omega) (fun i hi => ?_) (fun z => by omega)]
      · rw [hT]; omega
      · have hlt : q + i < T.length := by omega
        exact ⟨hlt, ((lxC_lt hlt).2.2).mpr (hb (q + i) (by omega) (by rw [← hT]; exact hlt))⟩
    have e2 : kiT T (stT T k) (edT T k) = 41 := by
      unfold kiT
      exact if_pos (by omega)
    show kkT T (k + 0) = 41
    rw [Nat.add_zero]
    unfold kkT
    rw [if_neg (fun z => z.2 e2)]
    exact e2
  | .inl c :: s, pre, k, q, ok, hT, hk, hq, hb, h400 => by
    have hc : lxC c = 0 := ok.1.1 c (List.mem_singleton.mpr rfl)
    have hT2 : T = (pre ++ [c]) ++ lxT s := by
      rw [hT]
      show pre ++ ([c] ++ lxT s) = _
      rw [List.append_assoc]
    refine lx_main h1600 s (pre ++ [c]) k q ok.2.2 hT2 hk (by simp only [List.length_append]; omega) (fun i i1 i2 => ?_) h400
    by_cases z : i < pre.length
    · exact hb i i1 z
    · have : i = pre.length := by
        simp only [List.length_append, List.length_cons, List.length_nil] at i2
        omega
      subst this
      have e := gdA (a := pre) (b := lxT (.inl c :: s)) (i := 0)
      rw [Nat.add_zero] at e
      rw [hT, e]
      exact hc
  | .inr t :: s, pre, k, q, ok, hT, hk, hq, hb, h400 => by
    obtain ⟨kd, v, b⟩ := t
    have ok0 := ok
    obtain ⟨⟨o1, q1, q2, q3, q4, q5⟩, o3, o4⟩ := ok
    have q1 : b ≠ [] := q1
    have q2 : kdB b = kd := q2
    have q3 : kd < 41 := q3
    have q4 : vaT b kd 0 b.length = v := q4
    have hT : T = pre ++ (b ++ lxT s) := hT
    have hl : 0 < b.length := List.length_pos_iff.mpr q1
    have hp : pre.length < T.length := by rw [hT]; simp only [List.length_append]; omega
    have g0 : lxG (.inr (kd, v, b)) ≠ 0 := by
      show (if kd = 40 then 2 else if kd = 39 ∨ kd < 27 then 1 else 3) ≠ 0
      split
      · omega
      · split <;> omega
    have h0 : T.getD pre.length 0 = b.getD 0 0 := by
      have := gdA (a := pre) (b := b ++ lxT s) (i := 0)
      rw [Nat.add_zero] at this
      rw [hT, this, gdL hl]
    have c0 : lxC (T.getD pre.length 0) ≠ 0 := by
      rw [h0, show lxC (b.getD 0 0) = _ from o1 _ (gd_mem hl)]
      exact g0
    have e1 : stT T k = pre.length := by
      show skT T (poT T k) = _
      rw [hk]
      unfold skT
      rw [sc_run 1600 (pre.length - q) q (by omega) (fun i hi => ?_) (fun z => ?_)]
      · omega
      · have hlt : q + i < T.length := by omega
        exact ⟨hlt, ((lxC_lt hlt).2.2).mpr (hb (q + i) (by omega) (by omega))⟩
      · rw [show q + (pre.length - q) = pre.length by omega] at z
        exact c0 (((lxC_lt z.1).2.2).mp z.2)
    have e2 : edT T k = pre.length + b.length := by
      show enT T (stT T k) = _
      rw [e1]
      exact en_eq (e := .inr (kd, v, b)) hT h1600 ok0 g0
    have hn : (lxK (.inr (kd, v, b) :: s)).length = (lxK s).length + 1 := rfl
    have e3 : kkT T k = kd := by
      unfold kkT
      rw [if_neg (fun z => by omega), e1, e2, ki_eq hT q1, q2]
    have e4 : vvK T k = v := by
      unfold vvK
      rw [e3, e1, e2, va_eq hT, q4]
    have hT2 : T = (pre ++ b) ++ lxT s := by rw [hT, List.append_assoc]
    have e5 : poT T (k + 1) = (pre ++ b).length := by
      show enT T (skT T (poT T k)) = _
      rw [List.length_append]
      exact e2
    obtain ⟨r1, r2⟩ := lx_main h1600 s (pre ++ b) (k + 1) (pre ++ b).length o4 hT2 e5 (Nat.le_refl _) (fun i i1 i2 => by omega) (by omega)
    refine ⟨fun j hj => ?_, ?_⟩
    · match j, hj with
      | 0, _ => exact ⟨e3, e4⟩
      | j + 1, hj =>
        have := r1 j (by omega)
        rw [show k + 1 + j = k + (j + 1) by omega] at this
        exact this
    · rw [hn, show k + ((lxK s).length + 1) = k + 1 + (lxK s).length by omega]
      exact r2
/-- the tokens of a text made of l -/
theorem lx_all {l : List TE} (ok : okX l) (h1600 : (lxT l).length ≤ 1600) (h400 : (lxK l).length ≤ 400) : cnK (lxT l) = (lxK l).length + 1 ∧ (∀ j (hj : j < (lxK l).length), kkT (lxT l) j = ((lxK l)[j]).1 ∧ vvK (lxT l) j = ((lxK l)[j]).2) ∧ kkT (lxT l) (lxK l).length = 41 ∧ ∀ e ∈ lxK l, e.1 < 41 := by
  obtain ⟨r1, r2⟩ := lx_main h1600 l [] 0 0 ok rfl rfl (Nat.zero_le _) (fun i _ i2 => absurd i2 (Nat.not_lt_zero i)) (by omega)
  rw [Nat.zero_add] at r2
  have r3 : ∀ j (hj : j < (lxK l).length), kkT (lxT l) j = ((lxK l)[j]).1 ∧ vvK (lxT l) j = ((lxK l)[j]).2 := fun j hj => by
    have := r1 j hj
    rw [Nat.zero_add] at this
    exact this
  have r4 : ∀ {l : List TE}, okX l → ∀ e ∈ lxK l, e.1 < 41 := by
    intro l
    induction l with
    | nil => intro _ e he; exact nomatch he
    | cons a s ih =>
      intro o e he
      match a, o, he with
      | .inl c, o, he => exact ih o.2.2 e he
      | .inr t, o, he =>
        rcases List.mem_cons.mp he with rfl | h
        · exact o.1.2.2.2.1
        · exact ih o.2.2 e h
  have r5 := r4 ok
  refine ⟨?_, r3, r2, r5⟩
  unfold cnK
  rw [fnN_first (f := spK (lxT l)) (v := 1) (i := (lxK l).length) ?_ (fun j hj => ?_) (by omega)]
  · rfl
  · unfold spK
    exact if_pos (Or.inl r2)
  · unfold spK
    have h1 := (r3 j hj).1
    have h2 := r5 _ (List.getElem_mem hj)
    rw [if_neg (by omega)]
    decide
