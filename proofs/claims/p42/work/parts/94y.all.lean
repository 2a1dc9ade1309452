/-! the reference reads all lines -/
section RMY
variable {G : GT} {d : Nat} {h0 h h1 hA : AH} {m : Nat} {K : TKS} {T : List Nat} {L : Nat → Nat} {s s1 t a b c : PST} {dp : Nat} {g g1 : GCT} {no no1 : Nat} {P : OC → AH → Prop}
theorem RlM.tk {w : Nat} (rl : RlM h0 h m K T L s g no) (rx : RxM h h1 m K T L (tkP K w s) 0 g no) : RlM h0 h1 m K T L (tkP K w s) g no := by
  obtain ⟨-, -, -, -, -, -, -, -, -, -, -, u1, -⟩ := id rx
  obtain ⟨rr, ln, hg, g6, g8, gi6, kp⟩ := rl
  have pb : pBk (tkP K w s) = pBk s := congrArg (fun d : DRF => d.1) tk_df
  refine ⟨rr.to rx.self (fun i c a e1 e2 => u1.at a (by omega) (by omega) (by omega)) ⟨rfl, rfl⟩ (fun z => ⟨(tkP_er z).1, by rw [pb], by rw [pb], by rw [pb], by rw [pb]⟩), ln.to (fun i c a e1 e2 => u1.at a (by omega) (by omega) (by omega)) (fun z => ⟨(tkP_er z).1, ?_⟩), fun z => ?_, g6, g8, gi6, kp.trans (Ux.kp u1)⟩
  · unfold lnS
    rw [pb, tk_df]
  · rw [pb]
    exact hg (tkP_er z).1

end RMY
