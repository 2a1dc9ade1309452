/-! the reference's quota, from its beginning -/
section RQW
variable {G : GT} {d : Nat} {s : ST} {h : AH}

set_option maxHeartbeats 4000000 in
set_option maxRecDepth 100000 in
theorem s_refquota (hd : 2 ≤ d) (hb : BDok s.2.2.1 s.2.2.2) {th : Int32} {j0 se : Nat} (q0 : j0 < bJa s.2.2.1) (hse : se ≤ 9) (c2 : MoT h 216 th s) {f g : Nat → Int32} (ai : At h (216 + 50) (.inl (0, 6, .inl f))) (aw : At h (216 + 51) (.inl (0, 6, .inl g))) (hf : ∀ k, k < 6 → f k = nI ((po (rt (dF s.2.2.2)) (dB s.2.2.2 j0)) k)) (hg : ∀ k, k < 6 → g k = nI 0) : RQ G mX12_quota d 0 [some (.ref 216), some (.int (nI j0)), some (.int (nI se)), none, none, none] [] h (Ri fun v h1 => v = nI (quR (se - su (fun k => (po (rt (dF s.2.2.2)) (dB s.2.2.2 j0)) k / ((su (dB s.2.2.2 j0) 6) / (se + 1) + 1)) 6) (fun k => (po (rt (dF s.2.2.2)) (dB s.2.2.2 j0)) k - (po (rt (dF s.2.2.2)) (dB s.2.2.2 j0)) k / ((su (dB s.2.2.2 j0) 6) / (se + 1) + 1) * ((su (dB s.2.2.2 j0) 6) / (se + 1) + 1))) ∧ MoT h1 216 th s ∧ (∃ g, At h1 (216 + 51) (.inl (0, 6, .inl g)) ∧ ∀ k, k < 6 → g k = nI (quo (po (rt (dF s.2.2.2)) (dB s.2.2.2 j0)) (su (dB s.2.2.2 j0) 6) se k)) ∧ Sm h h1 (216 + 50) (216 + 52)) := by
  have l2 := hb.2.1
  have hs := hb.2.2.2.2.2.2.1 j0 (by omega)
  obtain ⟨⟨tk, iw, er, et, dp, nm, am⟩, -⟩ := id c2
  refine tX12_quota_0  (r := ?_)
  refine tX12_quota_1  (r := ?_)
  refine tX12_quota_2 (hd := (by omega)) (ha := (by first | assumption | (repeat (first | assumption | exact At.set_eq2 (by first | omega | (simp only [hset, hnew]; omega) | rfl | decide) | exact At.new_eq2 _ _ (by first | omega | (simp only [hset, hnew]; omega) | rfl | decide) | refine At.set_ne ?_ (by first | omega | (simp only [hset, hnew]; omega) | rfl | decide) | refine At.new_ne ?_)))) (call := s_all (d := 1) (by decide) c2 hb q0) (k := ?_)
  rintro v h_ ⟨rfl, e9⟩
  rw [e9]
  refine tX12_quota_5  (r := ?_)
  refine tX12_quota_6  (r := ?_)
  refine tX12_quota_7  (r := ?_)
  rw [nI_add]
  refine tX12_quota_8 (hne := (nI_ne0 (Nat.succ_pos se) (by omega))) (r := ?_)
  rw [pk_div (d := se + 1) (by omega) (Nat.succ_pos se) (by omega)]
  refine tX12_quota_9  (r := ?_)
  refine tX12_quota_10  (r := ?_)
  rw [nI_add]
  refine tX12_quota_11  (r := ?_)
  refine tX12_quota_12  (r := ?_)
  refine tX12_quota_13  (r := ?_)
  refine tX12_quota_15  (r := ?_)
  refine tX12_quota_16  (r := ?_)
  exact s_quota1 (by omega) hb (fun k hk => po_le hs k) (fun k h1_ h2_ => po_z hb (by omega) k h1_ h2_) hse (po_sum (rt_lt6 hb)) hs (bLa s.2.2.1) 0 h f g (by omega) (by omega) c2 ai aw (fun k hk => hf k hk) (fun k hk => hg k hk) (Sm.rf _ _ _)

end RQW
