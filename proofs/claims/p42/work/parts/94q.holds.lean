/-! the reference reads what a jar holds -/
theorem be_df {l v : Nat} {d : DRF} : (beD l v d).1 = d.1 ∧ dfL (beD l v d) = dfL d ∧ dfJ (beD l v d) = dfJ d ∧ dfI (beD l v d) = dfI d ∧ dfO (beD l v d) = dfO d := by
  unfold beD
  split
  · exact ⟨rfl, rfl, rfl, rfl, rfl⟩
  · exact ⟨rfl, rfl, rfl, rfl, rfl⟩
theorem Eqv.be {l v : Nat} (s : PST) : Eqv (upP (beD l v) s) s := Eqv.up (f := beD l v) (fun d => by
  unfold beD
  split
  · exact ⟨rfl, rfl⟩
  · exact ⟨rfl, rfl⟩) s
theorem tk_df {K : TKS} {w : Nat} {s : PST} : pDf (tkP K w s) = pDf s := by
  unfold tkP
  split
  · rfl
  · split <;> rfl
theorem rp_df {n : Nat} {s : PST} : pDf (rpP n s) = pDf s := by
  unfold rpP
  split <;> rfl
theorem ho_df {K : TKS} {l : Nat} {s : PST} : pDf (hoP K l s) = pDf s ∨ pDf (hoP K l s) = beD l (vaP K s) (pDf s) := by
  unfold hoP
  rw [tk_df]
  have h : ∀ x : PST, pDf x = pDf s → pDf (upP (beD l (vaP K s)) x) = pDf s ∨ pDf (upP (beD l (vaP K s)) x) = beD l (vaP K s) (pDf s) := fun x hx => by
    by_cases z : pEr x = 0
    · rw [upP_e z]
      exact Or.inr (congrArg (beD l (vaP K s)) hx)
    · rw [upP_n z]
      exact Or.inl hx
  split
  · exact h _ rp_df
  · exact h _ rfl
theorem ho_B {K : TKS} {l : Nat} {s : PST} : pBk (hoP K l s) = pBk s := by
  show (pDf (hoP K l s)).1 = (pDf s).1
  rcases ho_df (K := K) (l := l) (s := s) with e | e
  · rw [e]
  · rw [e]
    exact be_df.1
theorem ho_0 {K : TKS} {l : Nat} {s : PST} (h : pEr (hoP K l s) = 0) : pEr s = 0 ∧ pDf (hoP K l s) = beD l (vaP K s) (pDf s) := by
  unfold hoP at h ⊢
  have h1 := upP_er0 (tkP_er h).1
  rw [tk_df]
  split at h1
  · exact (rpP_er (by decide) h1).elim
  · rename_i z
    rw [if_neg z, upP_e h1]
    exact ⟨h1, rfl⟩
section RMQ
variable {G : GT} {d : Nat} {h0 h : AH} {m : Nat} {K : TKS} {T : List Nat} {L : Nat → Nat} {s t : PST} {dp : Nat} {g : GCT} {no : Nat} {P : OC → AH → Prop}
/-- a jar's beans in the reference's row -/
def BnM (f fb : Nat → Int32) (k : Nat) (s : PST) : Prop := (pEr s = 0 → ∀ l, l < 6 → f (6 * k + l) = nI (dfE (pDf s) k l)) ∧ ∀ x, x < 6 * k ∨ 6 * k + 6 ≤ x → f x = fb x
end RMQ
