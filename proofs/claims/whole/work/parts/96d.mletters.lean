/-! the reference reads a token: letters -/
section RTD
variable {G : GT} {d : Nat} {h : AH} {m : Nat} {T : List Nat} {P : OC → AH → Prop}

set_option maxHeartbeats 4000000 in
set_option maxRecDepth 100000 in
theorem s_mlets (hd : 2 ≤ d) (tp : TpM h m T) {p k : Nat} {w : Int32} : ∀ (n e : Nat), T.length ≤ n + e → e ≤ 2000 → RQ G mX12_read d 44 [some (.ref m), some (.int (nI p)), some (.int (nI k)), some (.int w), some (.int (nI (scT T (ltT T) n e))), none] [] h P → RQ G mX12_read d 26 [some (.ref m), some (.int (nI p)), some (.int (nI k)), some (.int w), some (.int (nI e)), none] [] h P := by
  obtain ⟨⟨th, ea, tk, iw, er, et, dp, nm, a0⟩, ⟨f, a1, hf⟩, l16, hT⟩ := id tp
  intro n
  induction n with
  | zero =>
    intro e hl he kk
    have nl : ¬ ltT T e = true := fun z => by have := (of_decide_eq_true z).1; omega
    refine tX12_read_26  (r := ?_)
    refine tX12_read_27  (r := ?_)
    refine tX12_read_29 (hd := (by omega)) (ha := (by first | assumption | (repeat (first | assumption | exact At.set_eq2 (by first | omega | (simp only [hset, hnew]; omega) | rfl | decide) | exact At.new_eq2 _ _ (by first | omega | (simp only [hset, hnew]; omega) | rfl | decide) | refine At.set_ne ?_ (by first | omega | (simp only [hset, hnew]; omega) | rfl | decide) | refine At.new_ne ?_)))) (call := s_mbyte (d := 0) tp (by omega)) (k := ?_)
    rintro x_ h_ ⟨hx_, e_⟩
    rw [e_, hx_]
    refine tX12_read_32 (hd := (by omega)) (call := s_mlet (d := 1) (T := T) (p := e) (by decide) hT rfl) (k := ?_)
    rintro x_ h_ ⟨hx_, e_⟩
    rw [e_, hx_]
    refine tX12_read_35  (kf := fun c_ => by exfalso; rw [if_neg nl] at c_; exact c_ rfl) (kt := fun _ => ?_)
    exact kk
  | succ n ih =>
    intro e hl he kk
    by_cases nl : ltT T e = true
    · have es : scT T (ltT T) (n + 1) e = scT T (ltT T) n (e + 1) := if_pos ⟨(of_decide_eq_true nl).1, nl⟩
      rw [es] at kk
      have lt := (of_decide_eq_true nl).1
      refine tX12_read_26  (r := ?_)
      refine tX12_read_27  (r := ?_)
      refine tX12_read_29 (hd := (by omega)) (ha := (by first | assumption | (repeat (first | assumption | exact At.set_eq2 (by first | omega | (simp only [hset, hnew]; omega) | rfl | decide) | exact At.new_eq2 _ _ (by first | omega | (simp only [hset, hnew]; omega) | rfl | decide) | refine At.set_ne ?_ (by first | omega | (simp only [hset, hnew]; omega) | rfl | decide) | refine At.new_ne ?_)))) (call := s_mbyte (d := 0) tp (by omega)) (k := ?_)
      rintro x_ h_ ⟨hx_, e_⟩
      rw [e_, hx_]
      refine tX12_read_32 (hd := (by omega)) (call := s_mlet (d := 1) (T := T) (p := e) (by decide) hT rfl) (k := ?_)
      rintro x_ h_ ⟨hx_, e_⟩
      rw [e_, hx_]
      refine tX12_read_35  (kt := fun c_ => by exfalso; rw [if_pos nl] at c_; exact absurd c_ (by decide)) (kf := fun _ => ?_)
      refine tX12_read_38  (r := ?_)
      rw [nI_add]
      refine tX12_read_41 (r := ?_)
      exact ih (e + 1) (by omega) (by omega) kk
    · have es : scT T (ltT T) (n + 1) e = e := if_neg (fun z => nl z.2)
      rw [es] at kk
      refine tX12_read_26  (r := ?_)
      refine tX12_read_27  (r := ?_)
      refine tX12_read_29 (hd := (by omega)) (ha := (by first | assumption | (repeat (first | assumption | exact At.set_eq2 (by first | omega | (simp only [hset, hnew]; omega) | rfl | decide) | exact At.new_eq2 _ _ (by first | omega | (simp only [hset, hnew]; omega) | rfl | decide) | refine At.set_ne ?_ (by first | omega | (simp only [hset, hnew]; omega) | rfl | decide) | refine At.new_ne ?_)))) (call := s_mbyte (d := 0) tp (by omega)) (k := ?_)
      rintro x_ h_ ⟨hx_, e_⟩
      rw [e_, hx_]
      refine tX12_read_32 (hd := (by omega)) (call := s_mlet (d := 1) (T := T) (p := e) (by decide) hT rfl) (k := ?_)
      rintro x_ h_ ⟨hx_, e_⟩
      rw [e_, hx_]
      refine tX12_read_35  (kf := fun c_ => by exfalso; rw [if_neg nl] at c_; exact c_ rfl) (kt := fun _ => ?_)
      exact kk

end RTD
