/-! the reference reckons nodes -/
theorem MoT.w47 {m : Nat} {th : Int32} {s : ST} {h : AH} (c : MoT h m th s) : ArI h (m + 47) 800 := by
  obtain ⟨-, ⟨-, -, -, -, -, -, -, -, -, -, -, z, -⟩, -⟩ := c
  exact z
theorem MoT.nor {m : Nat} {th : Int32} {s : ST} {h : AH} (c : MoT h m th s) : NoR h (m + 9) s.2.2.1 := by
  obtain ⟨-, ⟨-, -, -, -, -, -, -, -, -, ⟨ru, ac, no, -, -, nor⟩, -⟩, -⟩ := c
  exact nor
theorem MoT.val {th : Int32} {s : ST} {h : AH} (c : MoT h 216 th s) (f : Nat → Int32) : MoT (hset h (216 + 47) (.inl (0, 800, .inl f))) 216 th s := by
  obtain ⟨⟨tk, iw, er, et, dp, nm, a⟩, ⟨-, ⟨f1, a1, c1⟩, a2, a3, a4, a5, a6, a7, a8, ⟨ru, ac, no, a9⟩, ⟨b1, b2, b3, b4, b5, b6, a28⟩, ⟨f47, a47⟩, ⟨g, a48, hg⟩, a49, a50, a51, a52⟩, c3⟩ := c
  have e : h.1 ≤ (hset h (216 + 47) (.inl (0, 800, .inl f))).1 := Nat.le_refl _
  have u1 : Un h (hset h (216 + 47) (.inl (0, 800, .inl f))) 216 (216 + 47) := Un.set (Un.rf _ _ _) (by omega)
  have u2 : Un h (hset h (216 + 47) (.inl (0, 800, .inl f))) (216 + 48) (216 + 53) := Un.set (Un.rf _ _ _) (by omega)
  have am := a.keep e (u1 _ (by omega) (by omega))
  obtain ⟨⟨f1', a1', c1'⟩, ⟨f2, a2', c2⟩, ⟨f3, a3', c3'⟩, ⟨f4, a4', c4⟩, ⟨f5, a5', c5⟩⟩ := c3
  exact ⟨⟨tk, iw, er, et, dp, nm, am⟩, ⟨⟨th, tk, iw, er, et, dp, nm, am⟩, ⟨f1, a1.keep e (u1 _ (by omega) (by omega)), c1⟩, a2.keep e (u1 _ (by omega) (by omega)), a3.keep e (u1 _ (by omega) (by omega)), a4.keep e (u1 _ (by omega) (by omega)), a5.keep e (u1 _ (by omega) (by omega)), a6.keep e (u1 _ (by omega) (by omega)), a7.keep e (u1 _ (by omega) (by omega)), a8.keep e (u1 _ (by omega) (by omega)), ⟨ru, ac, no, a9.keep e (u1.sub (by omega) (by omega))⟩, ⟨b1, b2, b3, b4, b5, b6, a28.keep e (u1.sub (by omega) (by omega))⟩, ⟨f, At.set_eq2 a47.1⟩, ⟨g, a48.keep e (u2 _ (by omega) (by omega)), hg⟩, a49.keep e (u2 _ (by omega) (by omega)), a50.keep e (u2 _ (by omega) (by omega)), a51.keep e (u2 _ (by omega) (by omega)), a52.keep e (u2 _ (by omega) (by omega))⟩,
    ⟨f1', a1'.keep e (u1 _ (by omega) (by omega)), c1'⟩, ⟨f2, a2'.keep e (u1 _ (by omega) (by omega)), c2⟩, ⟨f3, a3'.keep e (u1 _ (by omega) (by omega)), c3'⟩, ⟨f4, a4'.keep e (u1 _ (by omega) (by omega)), c4⟩, ⟨f5, a5'.keep e (u1 _ (by omega) (by omega)), c5⟩⟩
/-- changes in the reference's working rows; what is kept stays -/
def Sv (h h1 : AH) : Prop := Sm h h1 (216 + 47) (216 + 53) ∧ Un h h1 (216 + 49) (216 + 50)
theorem Sv.rf (h : AH) : Sv h h := ⟨Sm.rf _ _ _, Un.rf _ _ _⟩
theorem Sv.trans {h h1 h2 : AH} (p : Sv h h1) (q : Sv h1 h2) : Sv h h2 := ⟨p.1.trans q.1, p.2.trans q.2⟩
theorem Sv.of {h h1 : AH} (sm : Sm h h1 (216 + 50) (216 + 53)) (e : 269 ≤ h.1) : Sv h h1 := ⟨sm.sub (by omega) (by omega), sm.un (by omega) (by omega)⟩
theorem MoT.room {th : Int32} {s : ST} {h : AH} (c : MoT h 216 th s) : 269 ≤ h.1 := by
  obtain ⟨-, -, -, ⟨f4, z4⟩⟩ := c.w4
  have := z4.1
  omega
section RKN
variable {G : GT} {d : Nat} {s : ST} {h0 h : AH}

end RKN
