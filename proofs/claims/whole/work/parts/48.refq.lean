/-! the reference gives what is left by quota -/
section RQU
variable {G : GT} {d : Nat} {s0 : ST} {h0 : AH}
/-- how many seats stay empty -/
def quR : Nat → (Nat → Nat) → Nat
  | 0, _ => 0
  | n + 1, l => match fiN l 6 with
    | none => n + 1
    | some k => quR n (fun i => if i = k then 0 else l i)
theorem quR_none {l : Nat → Nat} (e : fiN l 6 = none) (n : Nat) : quR (n + 1) l = n + 1 := by
  show (match fiN l 6 with | none => n + 1 | some k => quR n (fun i => if i = k then 0 else l i)) = n + 1
  rw [e]
theorem quR_some {l : Nat → Nat} {k : Nat} (e : fiN l 6 = some k) (n : Nat) : quR (n + 1) l = quR n (fun i => if i = k then 0 else l i) := by
  show (match fiN l 6 with | none => n + 1 | some k => quR n (fun i => if i = k then 0 else l i)) = _
  rw [e]

set_option maxHeartbeats 4000000 in
set_option maxRecDepth 100000 in
theorem s_quota2 (hd : 1 ≤ d) (hb : BDok s0.2.2.1 s0.2.2.2) {th y3 : Int32} {x1 x2 : Option Value} : ∀ (n : Nat) (h : AH) (f g : Nat → Int32) (ws ls : Nat → Nat), n ≤ 9 → MoT h 216 th s0 → At h (216 + 50) (.inl (0, 6, .inl f)) → At h (216 + 51) (.inl (0, 6, .inl g)) → (∀ k, k < 6 → f k = nI (ls k)) → (∀ k, k < 6 → g k = nI (ws k)) → (∀ k, k < 6 → ls k ≤ 1200) → (∀ k, bLa s0.2.2.1 ≤ k → k < 6 → ls k = 0) → Sm h0 h (216 + 50) (216 + 52) → RQ G mX12_quota d 89 [some (.ref 216), x1, x2, some (.int y3), some (.int (nI n)), some (.int (oI (fiN ls 6)))] [] h (Ri fun v h1 => v = nI (quR n ls) ∧ MoT h1 216 th s0 ∧ (∃ g, At h1 (216 + 51) (.inl (0, 6, .inl g)) ∧ ∀ k, k < 6 → g k = nI ((quN n (ws, ls)).1 k)) ∧ Sm h0 h1 (216 + 50) (216 + 52)) := by
  intro n
  induction n with
  | zero =>
    intro h f g ws ls hn c2 ai aw hf hg hl hz sm
    refine tX12_quota_89  (r := ?_)
    refine tX12_quota_91  (kf := fun c_ => by exfalso; exact c_ (by decide)) (kt := fun _ => ?_)
    refine tX12_quota_131  (r := ?_)
    refine tX12_quota_133  (hP := ?_)
    exact ⟨_, rfl, rfl, c2, ⟨g, aw, hg⟩, sm⟩
  | succ n ih =>
    intro h f g ws ls hn c2 ai aw hf hg hl hz sm
    obtain ⟨⟨tk, iw, er, et, dp, nm, am⟩, -⟩ := id c2
    have l50 := ai.1
    have l51 := aw.1
    have lm := am.1
    refine tX12_quota_89  (r := ?_)
    refine tX12_quota_91  (kt := fun c_ => by exfalso; exact absurd c_ (by rw [← nI_0]; exact nI_ge (Nat.succ_pos n) (by omega))) (kf := fun _ => ?_)
    refine tX12_quota_94  (r := ?_)
    refine tX12_quota_96  (r := ?_)
    refine tX12_quota_97  (kt := fun c_97 => ?_) (kf := fun c_97 => ?_)
    · have e : fiN ls 6 = none := by
        cases e1 : fiN ls 6 with
        | none => rfl
        | some k =>
          rw [e1] at c_97
          have k6 := fi_lt _ _ _ e1
          have c9 : nI k = -1 := c_97
          rw [ci_eq_m1 (by omega)] at c9
          exact c9.elim
      refine tX12_quota_131  (r := ?_)
      refine tX12_quota_133  (hP := ?_)
      rw [quR_none e, quN_none e]
      exact ⟨_, rfl, rfl, c2, ⟨g, aw, hg⟩, sm⟩
    · obtain ⟨k, e⟩ : ∃ k, fiN ls 6 = some k := by
        cases e1 : fiN ls 6 with
        | none =>
          rw [e1] at c_97
          exact absurd rfl c_97
        | some k => exact ⟨k, rfl⟩
      have k6 := fi_lt _ _ _ e
      rw [e, quR_some e, quN_some e]
      have c4 := (c2.won (upd g k (nI (ws k + 1)))).its (upd f k (nI 0))
      have hf4 : ∀ z, z < 6 → upd f k (nI 0) z = nI ((fun i => if i = k then 0 else ls i) z) := fun z hz6 => by
        show (if z = k then nI 0 else f z) = nI (if z = k then 0 else ls z)
        by_cases q : z = k
        · rw [if_pos q, if_pos q]
        · rw [if_neg q, if_neg q, hf z hz6]
      have hl4 : ∀ z, z < 6 → (fun i => if i = k then 0 else ls i) z ≤ 1200 := fun z hz6 => by
        have := hl z hz6
        show (if z = k then 0 else ls z) ≤ 1200
        split <;> omega
      have hz4 : ∀ z, bLa s0.2.2.1 ≤ z → z < 6 → (fun i => if i = k then 0 else ls i) z = 0 := fun z h1_ h2_ => by
        have := hz z h1_ h2_
        show (if z = k then 0 else ls z) = 0
        split <;> omega
      refine tX12_quota_100  (r := ?_)
      refine tX12_quota_101 (ha := (by first | assumption | (repeat (first | assumption | exact At.set_eq2 (by first | omega | (simp only [hset, hnew]; omega) | rfl | decide) | exact At.new_eq2 _ _ (by first | omega | (simp only [hset, hnew]; omega) | rfl | decide) | refine At.set_ne ?_ (by first | omega | (simp only [hset, hnew]; omega) | rfl | decide) | refine At.new_ne ?_)))) (hv := rfl) (r := ?_)
      refine tX12_quota_104  (r := ?_)
      refine tX12_quota_106  (r := ?_)
      refine tX12_quota_107 (ha := (by first | assumption | (repeat (first | assumption | exact At.set_eq2 (by first | omega | (simp only [hset, hnew]; omega) | rfl | decide) | exact At.new_eq2 _ _ (by first | omega | (simp only [hset, hnew]; omega) | rfl | decide) | refine At.set_ne ?_ (by first | omega | (simp only [hset, hnew]; omega) | rfl | decide) | refine At.new_ne ?_)))) (hx := rfl) (hj := k6) (hn := (by decide)) (r := ?_)
      rw [hg _ k6]
      refine tX12_quota_108  (r := ?_)
      refine tX12_quota_109  (r := ?_)
      rw [nI_add]
      refine tX12_quota_110 (ha := (by first | assumption | (repeat (first | assumption | exact At.set_eq2 (by first | omega | (simp only [hset, hnew]; omega) | rfl | decide) | exact At.new_eq2 _ _ (by first | omega | (simp only [hset, hnew]; omega) | rfl | decide) | refine At.set_ne ?_ (by first | omega | (simp only [hset, hnew]; omega) | rfl | decide) | refine At.new_ne ?_)))) (hx := rfl) (hj := k6) (hn := (by decide)) (r := ?_)
      refine tX12_quota_111  (r := ?_)
      refine tX12_quota_112 (ha := (by first | assumption | (repeat (first | assumption | exact At.set_eq2 (by first | omega | (simp only [hset, hnew]; omega) | rfl | decide) | exact At.new_eq2 _ _ (by first | omega | (simp only [hset, hnew]; omega) | rfl | decide) | refine At.set_ne ?_ (by first | omega | (simp only [hset, hnew]; omega) | rfl | decide) | refine At.new_ne ?_)))) (hv := rfl) (r := ?_)
      refine tX12_quota_115  (r := ?_)
      refine tX12_quota_117  (r := ?_)
      refine tX12_quota_118 (ha := (by first | assumption | (repeat (first | assumption | exact At.set_eq2 (by first | omega | (simp only [hset, hnew]; omega) | rfl | decide) | exact At.new_eq2 _ _ (by first | omega | (simp only [hset, hnew]; omega) | rfl | decide) | refine At.set_ne ?_ (by first | omega | (simp only [hset, hnew]; omega) | rfl | decide) | refine At.new_ne ?_)))) (hx := rfl) (hj := k6) (hn := (by decide)) (r := ?_)
      refine tX12_quota_119  (r := ?_)
      rw [nI_dec (by omega)]
      refine tX12_quota_122  (r := ?_)
      refine tX12_quota_123 (hd := (by omega)) (ha := (by (first | assumption | (repeat (first | assumption | exact At.set_eq2 (by (first | omega | (simp only [hset, hnew]; omega) | rfl | decide)) | exact At.new_eq2 _ _ (by (first | omega | (simp only [hset, hnew]; omega) | rfl | decide)) | refine At.set_ne ?_ (by (first | omega | (simp only [hset, hnew]; omega) | rfl | decide)) | refine At.new_ne ?_))))) (call := s_firstOf (d := 0) c4 hb (At.set_eq2 l50) (fun z hz_ => hf4 z (Nat.lt_of_lt_of_le hz_ hb.1)) hl4 hz4) (k := ?_)
      rintro v h_ ⟨rfl, e9⟩
      rw [e9]
      refine tX12_quota_126  (r := ?_)
      refine tX12_quota_128 (r := ?_)
      refine ih _ _ _ _ _ (by omega) c4 (At.set_eq2 l50) (by (first | assumption | (repeat (first | assumption | exact At.set_eq2 (by (first | omega | (simp only [hset, hnew]; omega) | rfl | decide)) | exact At.new_eq2 _ _ (by (first | omega | (simp only [hset, hnew]; omega) | rfl | decide)) | refine At.set_ne ?_ (by (first | omega | (simp only [hset, hnew]; omega) | rfl | decide)) | refine At.new_ne ?_)))) hf4 (fun z hz6 => ?_) hl4 hz4 ((sm.set (by omega) (by omega)).set (by omega) (by omega))
      show (if z = k then nI (ws k + 1) else g z) = nI (if z = k then ws z + 1 else ws z)
      by_cases q : z = k
      · rw [if_pos q, if_pos q, q]
      · rw [if_neg q, if_neg q, hg z hz6]

end RQU
