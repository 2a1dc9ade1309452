/-! the class's tokens as the pure ones -/
theorem vn_lt {T : List Nat} {p : Nat} : ∀ {n : Nat}, (∀ j, j < n → ltT T (p + j) = true) → vnT T p n < 32 ^ n
  | 0, _ => Nat.one_pos
  | n + 1, h => by
    have h1 := vn_lt (n := n) (fun j hj => h j (by omega))
    obtain ⟨-, h2, h3⟩ := of_decide_eq_true (h n (Nat.lt_succ_self n))
    show vnT T p n * 32 + (T.getD (p + n) 0 - 97) + 1 < 32 ^ (n + 1)
    rw [Nat.pow_succ]
    omega
theorem vd_lt {T : List Nat} {p : Nat} : ∀ {n : Nat}, (∀ j, j < n → dgT T (p + j) = true) → vdT T p n < 10 ^ n
  | 0, _ => Nat.one_pos
  | n + 1, h => by
    have h1 := vd_lt (n := n) (fun j hj => h j (by omega))
    obtain ⟨-, h2, h3⟩ := of_decide_eq_true (h n (Nat.lt_succ_self n))
    show vdT T p n * 10 + (T.getD (p + n) 0 - 48) < 10 ^ (n + 1)
    rw [Nat.pow_succ]
    omega
theorem kk_len {T : List Nat} {k : Nat} : (kkT T k = 39 → edT T k - stT T k ≤ 8) ∧ (kkT T k = 40 → edT T k - stT T k ≤ 4) := by
  have r := en_rng (T := T) (p := stT T k)
  refine ⟨fun h => ?_, fun h => ?_⟩
  · have h1 := kk_ki h (by decide)
    exact ((ki_39 (Or.inl h1) r.1).2.1 h1).2
  · have h1 := kk_ki h (by decide)
    exact ((ki_39 (Or.inr h1) r.1).2.2.2 h1).2
theorem vv_num {T : List Nat} {k : Nat} (h : kkT T k = 40) : vvK T k ≤ 9999 := by
  have e : vvK T k = vdT T (stT T k) (edT T k - stT T k) := by
    unfold vvK vaT
    rw [if_neg (by omega), if_pos h]
  have h1 := vd_lt (kk_40 h)
  have h2 := kk_len.2 h
  have h3 : 10 ^ (edT T k - stT T k) ≤ 10 ^ 4 := Nat.pow_le_pow_right (by decide) h2
  rw [e]
  have h4 : (10 : Nat) ^ 4 = 10000 := by decide
  omega
theorem vv_lt {T : List Nat} {k : Nat} : vvK T k < 1099511627776 := by
  by_cases a : kkT T k = 39
  · have e : vvK T k = vnT T (stT T k) (edT T k - stT T k) := by
      unfold vvK vaT
      rw [if_pos a]
    have h1 := vn_lt (kk_39 a)
    have h3 : 32 ^ (edT T k - stT T k) ≤ 32 ^ 8 := Nat.pow_le_pow_right (by decide) (kk_len.1 a)
    rw [e]
    have h4 : (32 : Nat) ^ 8 = 1099511627776 := by decide
    omega
  · by_cases b : kkT T k = 40
    · have := vv_num b
      omega
    · have e : vvK T k = 0 := by
        unfold vvK vaT
        rw [if_neg a, if_neg b]
      omega
theorem cn_le {T : List Nat} : 1 ≤ cnK T ∧ cnK T ≤ 401 ∧ (kkT T (cnK T - 1) = 41 ∨ kkT T (cnK T - 1) = 42) ∧ ∀ k, k < cnK T - 1 → kkT T k ≠ 41 ∧ kkT T k ≠ 42 := by
  cases ef : fnN (spK T) 1 401 with
  | none => exact absurd (sp_eq kk_400) (fnN_none.mp ef 400 (by decide))
  | some i =>
    obtain ⟨h1, h2, h3⟩ := fnN_some ef
    have e : cnK T = i + 1 := cn_of (by omega) h3 h2
    rw [e]
    refine ⟨by omega, by omega, ?_, fun k hk => sp_ne (h3 k (by omega))⟩
    refine Classical.byContradiction (fun z => ?_)
    have : spK T i = 0 := if_neg z
    omega
theorem KnX.tk {h : AH} {b : Nat} {T : List Nat} (q : KnX h b T (cnK T)) : TkX h b (tkK T) := by
  obtain ⟨a0, ⟨f1, a1, c1⟩, ⟨f2, a2, c2⟩, ⟨f3, a3, c3⟩⟩ := q
  exact ⟨a0, ⟨f1, a1, fun k hk => ⟨c1 k hk, kk_lt⟩⟩, ⟨f2, a2, c2⟩, ⟨f3, a3, fun k hk => ⟨c3 k hk, vv_lt⟩⟩, cn_le.2.1⟩
/-- the shape of the tokens' cells -/
def TkE (h : AH) (b : Nat) : Prop := (∃ c : Int32, At h b (.inr (7, [.ref (b + 1), .ref (b + 2), .ref (b + 3), .int c]))) ∧ (∃ f : Nat → Option Nat, At h (b + 1) (.inl (4, 401, .inr (.inr (.inr (.inr f)))))) ∧ (∃ f : Nat → Int32, At h (b + 2) (.inl (0, 401, .inl f))) ∧ ∃ f : Nat → Int64, At h (b + 3) (.inl (2, 401, .inr (.inl f)))
section TAH
variable {G : GT} {d : Nat} {h : AH} {t b : Nat} {T : List Nat}

set_option maxHeartbeats 4000000 in
set_option maxRecDepth 100000 in
theorem s_readFrom (hd : 8 ≤ d) (ta : TaR h t T) (hdj : t + 2 ≤ b ∨ b + 4 ≤ t) (te : TkE h b) : RQ G mX9_readFrom d 0 [some (.ref b), some (.ref t), none, none, none, none] [] h (Rv fun h1 => TkX h1 b (tkK T) ∧ Sm h h1 b (b + 4)) := by
  obtain ⟨⟨c, k0⟩, ⟨f1, k1⟩, ⟨f2, k2⟩, f3, k3⟩ := id te
  have z0 := k0.1
  have z1 := k1.1
  have z2 := k2.1
  have z3 := k3.1
  refine tX9_readFrom_0  (r := ?_)
  refine tX9_readFrom_1  (r := ?_)
  refine tX9_readFrom_2  (r := ?_)
  refine tX9_readFrom_3  (r := ?_)
  refine tX9_readFrom_4  (r := ?_)
  refine tX9_readFrom_5  (r := ?_)
  refine tX9_readFrom_6 (ha := (by first | assumption | (repeat (first | assumption | exact At.set_eq2 (by first | omega | (simp only [hset, hnew]; omega) | rfl | decide) | exact At.new_eq2 _ _ (by first | omega | (simp only [hset, hnew]; omega) | rfl | decide) | refine At.set_ne ?_ (by first | omega | (simp only [hset, hnew]; omega) | rfl | decide) | refine At.new_ne ?_)))) (hlen := rfl) (r := ?_)
  refine RQ.imp (s_rf9 (h0 := h) hd hdj 400 0 rfl (ta.sm9 ((Sm.rf h b (b + 4)).set (by omega) (by omega)) (by omega)) (fun j hj => absurd hj (Nat.not_lt_zero j)) ⟨At.set_eq2 z0, ⟨f1, At.set_ne k1 (by omega), fun j hj => absurd hj (Nat.not_lt_zero j)⟩, ⟨f2, At.set_ne k2 (by omega), fun j hj => absurd hj (Nat.not_lt_zero j)⟩, f3, At.set_ne k3 (by omega), fun j hj => absurd hj (Nat.not_lt_zero j)⟩ rfl rfl ((Sm.rf h b (b + 4)).set (by omega) (by omega))) ?_
  rintro o_ h_ ⟨e_, kn_, sm_⟩
  exact ⟨e_, kn_.tk, sm_⟩

end TAH
