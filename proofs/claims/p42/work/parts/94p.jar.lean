/-! the reference reads a jar's line -/
/-- cells that are kept: all but the reference's, the book's, names' and nodes' rows, and those of S -/
def Kp (h h1 : AH) (m : Nat) (S : Nat → Prop) : Prop := h1.1 = h.1 ∧ h1.2.1 = h.2.1 ∧ ∀ i c, At h i c → i ≠ m → i ≠ m + 28 → (i < m + 6 ∨ m + 9 ≤ i) → (i < m + 28 + 16 ∨ m + 28 + 19 ≤ i) → ¬ S i → At h1 i c
theorem Kp.rf (h : AH) (m : Nat) (S : Nat → Prop) : Kp h h m S := ⟨rfl, rfl, fun _ _ a _ _ _ _ _ => a⟩
theorem Kp.trans {h h1 h2 : AH} {m : Nat} {S : Nat → Prop} (a : Kp h h1 m S) (b : Kp h1 h2 m S) : Kp h h2 m S := ⟨b.1.trans a.1, b.2.1.trans a.2.1, fun i c x e1 e2 e3 e4 e5 => b.2.2 i c (a.2.2 i c x e1 e2 e3 e4 e5) e1 e2 e3 e4 e5⟩
theorem Kp.mono {h h1 : AH} {m : Nat} {S S2 : Nat → Prop} (a : Kp h h1 m S) (e : ∀ i, S i → S2 i) : Kp h h1 m S2 := ⟨a.1, a.2.1, fun i c x e1 e2 e3 e4 e5 => a.2.2 i c x e1 e2 e3 e4 (fun z => e5 (e i z))⟩
theorem Kp.set {h h1 : AH} {m i : Nat} {c : AC} {S : Nat → Prop} (a : Kp h h1 m S) (e : i = m ∨ i = m + 28 ∨ (m + 6 ≤ i ∧ i < m + 9) ∨ (m + 28 + 16 ≤ i ∧ i < m + 28 + 19) ∨ S i) : Kp h (hset h1 i c) m S := ⟨a.1, a.2.1, fun k c9 x e1 e2 e3 e4 e5 => At.set_ne (a.2.2 k c9 x e1 e2 e3 e4 e5) (by
  intro z
  subst z
  rcases e with e | e | e | e | e
  · exact e1 e
  · exact e2 e
  · omega
  · omega
  · exact e5 e)⟩
theorem Ux.kp {h h1 : AH} {m : Nat} {S : Nat → Prop} (u : Ux h h1 m) : Kp h h1 m S := ⟨u.1, u.2.1, fun i c a e1 e2 e3 e4 _ => u.at a e1 e2 e4⟩
theorem Uw.kp {h h1 : AH} {m : Nat} {S : Nat → Prop} (u : Uw h h1 m) : Kp h h1 m S := ⟨u.1, u.2.1, fun i c a e1 e2 e3 e4 _ => u.at a e1 e2 e3 e4⟩
theorem adN_0 {v : Nat} : adN 0 v = laD v := rfl
theorem adN_1 {v : Nat} : adN 1 v = jaD v := rfl
theorem adN_5 {v : Nat} : adN 5 v = lnD v := rfl
section RMP
variable {G : GT} {d : Nat} {h0 h : AH} {m : Nat} {K : TKS} {T : List Nat} {L : Nat → Nat} {s t : PST} {dp : Nat} {g : GCT} {no : Nat} {P : OC → AH → Prop}

theorem so_way {k : Nat} (hk : k < 43) : (24 ≤ soK k ∧ soK k ≤ 26) ↔ (k = 24 ∨ k = 25 ∨ k = 26) := by
  have key : (List.range 43).all (fun k => decide ((24 ≤ soK k ∧ soK k ≤ 26) ↔ (k = 24 ∨ k = 25 ∨ k = 26))) = true := by decide +kernel
  exact of_decide_eq_true (List.all_eq_true.mp key k (List.mem_range.mpr hk))

end RMP
