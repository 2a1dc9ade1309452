/-! the digest of the reference: labels -/
/-- a row made anew since h0 -/
def Rw (h0 h : AH) (a n : Nat) (f : Nat → Int32) (th : Int32) (s : ST) (ck sk : Nat) : Prop := MoT h 216 th s ∧ At h a (.inl (0, n, .inl f)) ∧ Ch h0 h 216 269 ck sk ∧ 269 ≤ h0.1 ∧ h0.1 ≤ a
section DN
variable {G : GT} {d : Nat} {h0 h : AH} {s : ST} {P : OC → AH → Prop} {x1 : Option Value} {th : Int32} {a n ck sk : Nat} {f : Nat → Int32}
theorem Rw.mk (c : MoT h 216 th s) (ch : Ch h0 h 216 269 ck sk) (e0 : 269 ≤ h0.1) (n : Nat) : ∃ h1, h1 = hnew h n (.inl (0, n, .inl fun _ => 0)) ∧ Rw h0 h1 h.1 n (fun _ => 0) th s (ck + 1) (sk + n) := ⟨_, rfl, c.keep (Nat.le_succ _) (Un.new (Un.rf _ _ _) (by have := c.room; omega)), At.new_eq2 _ _ rfl, ch.new (by omega), e0, ch.1⟩
theorem Rw.put (r : Rw h0 h a n f th s ck sk) (j : Nat) (v : Int32) : ∃ h1, h1 = hset h a (.inl (0, n, .inl (upd f j v))) ∧ Rw h0 h1 a n (upd f j v) th s ck sk := by
  obtain ⟨c, a0, ch, e0, e1⟩ := r
  exact ⟨_, rfl, c.keep (Nat.le_refl _) (Un.set (Un.rf _ _ _) (by omega)), At.set_eq2 a0.1, ⟨ch.1, ch.2.1, ch.2.2.1, Un.set ch.2.2.2.1 (by omega), Un.set ch.2.2.2.2 (by omega)⟩, e0, e1⟩
theorem Rw.go {h1 : AH} {lo hi : Nat} (r : Rw h0 h a n f th s ck sk) (c : MoT h1 216 th s) (sm : Sm h h1 lo hi) (e2 : 216 ≤ lo) (e3 : hi ≤ 269) : Rw h0 h1 a n f th s ck sk := by
  obtain ⟨-, a0, ch, e0, e1⟩ := r
  exact ⟨c, sm.at a0 (by omega), ch.trans (sm.ch (lo2 := 216) (hi2 := 269) (ck := 0) (sk := 0) e2 e3), e0, e1⟩

end DN
