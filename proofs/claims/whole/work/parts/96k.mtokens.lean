/-! the reference's tokens as the pure ones -/
theorem KmM.tk {h : AH} {m : Nat} {T : List Nat} (q : KmM h m T (cnK T)) (tp : TpM h m T) : TkM h m (tkK T) T (lnK T) :=
  ⟨tp.2.1, q.1, q.2.1, q.2.2.1, q.2.2.2, tw_tk tp.2.2.1 tp.2.2.2⟩
section RTK
variable {G : GT} {d : Nat} {h : AH} {m : Nat} {T : List Nat} {f2 f3 f4 f5 : Nat → Int32}

set_option maxHeartbeats 4000000 in
set_option maxRecDepth 100000 in
theorem s_readAll (hd : 10 ≤ d) (tp : TpM h m T) (a2 : At h (m + 2) (.inl (0, 402, .inl f2))) (a3 : At h (m + 3) (.inl (0, 402, .inl f3))) (a4 : At h (m + 4) (.inl (0, 402, .inl f4))) (a5 : At h (m + 5) (.inl (0, 402, .inl f5))) : RQ G mX12_readAll d 0 [some (.ref m), none, none] [] h (Rv fun h1 => TkM h1 m (tkK T) T (lnK T) ∧ Sm h h1 (m + 2) (m + 6)) := by
  obtain ⟨⟨th, ea, tk, iw, er, et, dp, nm, a0⟩, ⟨f, a1, hf⟩, l16, hT⟩ := id tp
  refine tX12_readAll_0  (r := ?_)
  refine tX12_readAll_1  (r := ?_)
  refine tX12_readAll_2 (hd := (by omega)) (ha := (by first | assumption | (repeat (first | assumption | exact At.set_eq2 (by first | omega | (simp only [hset, hnew]; omega) | rfl | decide) | exact At.new_eq2 _ _ (by first | omega | (simp only [hset, hnew]; omega) | rfl | decide) | refine At.set_ne ?_ (by first | omega | (simp only [hset, hnew]; omega) | rfl | decide) | refine At.new_ne ?_)))) (call := s_mskip (d := 1) (by decide) tp (p := 0) (by omega)) (k := ?_)
  rintro x_ h2_ ⟨hx_, e_⟩
  rw [e_, hx_]
  refine tX12_readAll_5  (r := ?_)
  refine tX12_readAll_6  (r := ?_)
  refine tX12_readAll_7  (r := ?_)
  refine RQ.imp (s_mra8 (h0 := h) hd 401 0 rfl tp ⟨⟨f2, a2, fun j hj => absurd hj (Nat.not_lt_zero j)⟩, ⟨f3, a3, fun j hj => absurd hj (Nat.not_lt_zero j)⟩, ⟨f4, a4, fun j hj => absurd hj (Nat.not_lt_zero j)⟩, f5, a5, fun j hj => absurd hj (Nat.not_lt_zero j)⟩ (fun j hj => absurd hj (Nat.not_lt_zero j)) (Sm.rf h _ _)) ?_
  rintro o_ h_ ⟨e_, km_, sm_⟩
  exact ⟨e_, km_.tk (tp.sm sm_ (by omega)), sm_⟩

end RTK
