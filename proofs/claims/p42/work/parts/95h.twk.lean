/-! what tokens are -/
theorem vn_inj {T : List Nat} {p q : Nat} : ∀ {n m : Nat}, (∀ j, j < n → ltT T (p + j) = true) → (∀ j, j < m → ltT T (q + j) = true) → vnT T p n = vnT T q m → n = m ∧ ∀ i, i < n → T.getD (p + i) 0 = T.getD (q + i) 0
  | 0, 0, _, _, _ => ⟨rfl, fun i hi => absurd hi (Nat.not_lt_zero i)⟩
  | 0, m + 1, _, _, e => by
    have e : 0 = vnT T q m * 32 + (T.getD (q + m) 0 - 97) + 1 := e
    omega
  | n + 1, 0, _, _, e => by
    have e : vnT T p n * 32 + (T.getD (p + n) 0 - 97) + 1 = 0 := e
    omega
  | n + 1, m + 1, h1, h2, e => by
    have e : vnT T p n * 32 + (T.getD (p + n) 0 - 97) + 1 = vnT T q m * 32 + (T.getD (q + m) 0 - 97) + 1 := e
    obtain ⟨-, a1, a2⟩ := of_decide_eq_true (h1 n (Nat.lt_succ_self n))
    obtain ⟨-, b1, b2⟩ := of_decide_eq_true (h2 m (Nat.lt_succ_self m))
    have c1 : vnT T p n = vnT T q m := by omega
    have c2 : T.getD (p + n) 0 = T.getD (q + m) 0 := by omega
    obtain ⟨d1, d2⟩ := vn_inj (fun j hj => h1 j (by omega)) (fun j hj => h2 j (by omega)) c1
    subst d1
    refine ⟨rfl, fun i hi => ?_⟩
    by_cases z : i = n
    · rw [z]
      exact c2
    · exact d2 i (by omega)
theorem vn_same {T : List Nat} {p q : Nat} : ∀ {n : Nat}, (∀ i, i < n → T.getD (p + i) 0 = T.getD (q + i) 0) → vnT T p n = vnT T q n
  | 0, _ => rfl
  | n + 1, h => by
    show vnT T p n * 32 + (T.getD (p + n) 0 - 97) + 1 = vnT T q n * 32 + (T.getD (q + n) 0 - 97) + 1
    rw [vn_same (n := n) (fun i hi => h i (by omega)), h n (Nat.lt_succ_self n)]
theorem vv_name {T : List Nat} {k : Nat} (a : kkT T k = 39) : vvK T k = vnT T (stT T k) (edT T k - stT T k) := by
  unfold vvK vaT
  rw [if_pos a]
/-- a token's length -/
def lnK (T : List Nat) (k : Nat) : Nat := edT T k - stT T k
theorem kk_end {T : List Nat} {k : Nat} (a : kkT T k = 39 ∨ kkT T k = 40) : stT T k < edT T k ∧ edT T k ≤ T.length := by
  have r := en_rng (T := T) (p := stT T k)
  have b : kiT T (stT T k) (edT T k) = 39 ∨ kiT T (stT T k) (edT T k) = 40 := a.elim (fun z => Or.inl (kk_ki z (by decide))) (fun z => Or.inr (kk_ki z (by decide)))
  have c := (ki_39 b r.1).1
  exact ⟨r.1, r.2.1 c⟩
theorem tw_tk {T : List Nat} (l : T.length ≤ 1600) (b : ∀ i, i < T.length → T.getD i 0 < 256) : TwK (tkK T) T (lnK T) := by
  obtain ⟨c1, c2, c3, c4⟩ := cn_le (T := T)
  refine ⟨c1, c2, fun p hp => ⟨kk_lt, fun h => ?_⟩, fun p hp h => vv_num h, fun p hp h => ?_, fun a a' ha ha' h h' => ?_, l, b⟩
  · have hp : p < cnK T := hp
    have h : kkT T p < 41 := h
    show p + 1 < cnK T
    refine Classical.byContradiction (fun z => ?_)
    rw [show cnK T - 1 = p from by omega] at c3
    omega
  · have e := kk_end (Or.inl h)
    show stT T p + (edT T p - stT T p) ≤ T.length
    omega
  · show ((edT T a - stT T a = edT T a' - stT T a' ∧ ∀ i, i < edT T a - stT T a → T.getD (stT T a + i) 0 = T.getD (stT T a' + i) 0) ↔ vvK T a = vvK T a')
    rw [vv_name h, vv_name h']
    refine ⟨fun q => ?_, fun q => vn_inj (kk_39 h) (kk_39 h') q⟩
    rw [← q.1]
    exact vn_same q.2
