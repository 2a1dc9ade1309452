/-! the reference's count -/
section RQY
variable {G : GT} {d : Nat} {s : ST} {h : AH}
/-- seats of a jar that stay empty, as the reference tells them -/
def emp (p : Nat → Nat) (t se wy : Nat) : Nat := match fiN p 6 with
  | none => se
  | some _ => if wy = 2 then quR (se - su (fun k => p k / (t / (se + 1) + 1)) 6) (fun k => p k - p k / (t / (se + 1) + 1) * (t / (se + 1) + 1)) else 0
theorem emp_none {p : Nat → Nat} {t se wy : Nat} (e : fiN p 6 = none) : emp p t se wy = se := by
  unfold emp
  rw [e]
theorem emp_some {p : Nat → Nat} {t se wy f : Nat} (e : fiN p 6 = some f) : emp p t se wy = if wy = 2 then quR (se - su (fun k => p k / (t / (se + 1) + 1)) 6) (fun k => p k - p k / (t / (se + 1) + 1) * (t / (se + 1) + 1)) else 0 := by
  unfold emp
  rw [e]

set_option maxHeartbeats 4000000 in
set_option maxRecDepth 100000 in
theorem s_refcount (hd : 4 ≤ d) {th : Int32} (c2 : MoT h 216 th s) (hb : BDok s.2.2.1 s.2.2.2) {j0 : Nat} (q0 : j0 < bJa s.2.2.1) : RQ G mX12_count d 0 [some (.ref 216), some (.int (nI j0)), none, none, none] [] h (Ri fun v h9 => v = nI (emp (po (rt (dF s.2.2.2)) (dB s.2.2.2 j0)) (su (dB s.2.2.2 j0) 6) (bSe s.2.2.1 j0) (bWy s.2.2.1 j0)) ∧ MoT h9 216 th s ∧ (∃ g, At h9 (216 + 51) (.inl (0, 6, .inl g)) ∧ ∀ k, k < 6 → g k = nI (wo (po (rt (dF s.2.2.2)) (dB s.2.2.2 j0)) (su (dB s.2.2.2 j0) 6) (bSe s.2.2.1 j0) (bWy s.2.2.1 j0) k)) ∧ Sm h h9 (216 + 50) (216 + 52)) := by
  have l2 := hb.2.1
  have hs := hb.2.2.2.2.2.2.1 j0 (by omega)
  obtain ⟨hse, hwy⟩ := hb.2.2.2.1 j0 (by omega)
  obtain ⟨⟨tk2, iw2, er2, et2, dp2, nm2, am2⟩, -⟩ := id c2
  refine tX12_count_0  (r := ?_)
  refine tX12_count_1  (r := ?_)
  refine tX12_count_2 (hd := (by omega)) (ha := (by first | assumption | (repeat (first | assumption | exact At.set_eq2 (by first | omega | (simp only [hset, hnew]; omega) | rfl | decide) | exact At.new_eq2 _ _ (by first | omega | (simp only [hset, hnew]; omega) | rfl | decide) | refine At.set_ne ?_ (by first | omega | (simp only [hset, hnew]; omega) | rfl | decide) | refine At.new_ne ?_)))) (call := s_firstHere (d := 3) (by decide) c2 hb q0) (k := ?_)
  rintro v h1 ⟨rfl, c3, ⟨f, ai, hf⟩, sm1⟩
  obtain ⟨⟨tk, iw, er, et, dp, nm, am⟩, ⟨-, ⟨ft, at1, ct1⟩, -, -, -, -, -, -, -, ⟨ru, ac, no, a9, -⟩, -, -, ⟨fn, a48, n0, nb, nf, nl⟩, -, -, -, -⟩, ⟨⟨gs, as_, cs⟩, ⟨gw, awy, cwy⟩, ⟨gl, al, cl⟩, ⟨g0, a0_, c0_⟩, ⟨g1, a1_, c1_⟩⟩⟩ := id c3
  obtain ⟨-, -, ⟨gw0, aw0⟩, -⟩ := c3.w4
  refine tX12_count_5  (r := ?_)
  refine tX12_count_6  (r := ?_)
  refine tX12_count_7 (ha := (by first | assumption | (repeat (first | assumption | exact At.set_eq2 (by first | omega | (simp only [hset, hnew]; omega) | rfl | decide) | exact At.new_eq2 _ _ (by first | omega | (simp only [hset, hnew]; omega) | rfl | decide) | refine At.set_ne ?_ (by first | omega | (simp only [hset, hnew]; omega) | rfl | decide) | refine At.new_ne ?_)))) (hv := rfl) (r := ?_)
  refine tX12_count_10 (ha := (by first | assumption | (repeat (first | assumption | exact At.set_eq2 (by first | omega | (simp only [hset, hnew]; omega) | rfl | decide) | exact At.new_eq2 _ _ (by first | omega | (simp only [hset, hnew]; omega) | rfl | decide) | refine At.set_ne ?_ (by first | omega | (simp only [hset, hnew]; omega) | rfl | decide) | refine At.new_ne ?_)))) (hv := rfl) (r := ?_)
  refine tX12_count_13  (r := ?_)
  refine tX12_count_14 (ha := (by first | assumption | (repeat (first | assumption | exact At.set_eq2 (by first | omega | (simp only [hset, hnew]; omega) | rfl | decide) | exact At.new_eq2 _ _ (by first | omega | (simp only [hset, hnew]; omega) | rfl | decide) | refine At.set_ne ?_ (by first | omega | (simp only [hset, hnew]; omega) | rfl | decide) | refine At.new_ne ?_)))) (hx := rfl) (hj := (by omega)) (hn := (by decide)) (r := ?_)
  rw [cs _ q0]
  refine tX12_count_15  (r := ?_)
  refine tX12_count_16  (r := ?_)
  refine tX12_count_17  (r := ?_)
  refine s_refzero (h0 := h1) rfl (fun h2 g c4 aw hg sm2 => ?_) 6 0 h1 gw0 (by omega) (by omega) c3 aw0 (fun k hk => absurd hk (Nat.not_lt_zero k)) (Sm.rf _ _ _)
  have ai2 := sm2.at ai (by omega)
  have smA := (sm1.sub (lo2 := 216 + 50) (hi2 := 216 + 52) (by omega) (by omega)).trans (sm2.sub (by omega) (by omega))
  clear am a9 a48 at1 as_ awy al a0_ a1_ cs cwy cl c0_ c1_ n0 nb nf nl ct1
  obtain ⟨⟨tk, iw, er, et, dp, nm, am⟩, ⟨-, ⟨ft, at1, ct1⟩, -, -, -, -, -, -, -, ⟨ru, ac, no, a9, -⟩, -, -, ⟨fn, a48, n0, nb, nf, nl⟩, -, -, -, -⟩, ⟨⟨gs, as_, cs⟩, ⟨gw, awy, cwy⟩, ⟨gl, al, cl⟩, ⟨g0, a0_, c0_⟩, ⟨g1, a1_, c1_⟩⟩⟩ := id c4
  refine tX12_count_40  (r := ?_)
  refine tX12_count_41  (r := ?_)
  refine tX12_count_42  (kt := fun c_42 => ?_) (kf := fun c_42 => ?_)
  · obtain ⟨f0, e⟩ : ∃ f0, fiN (po (rt (dF s.2.2.2)) (dB s.2.2.2 j0)) 6 = some f0 := by
      cases e1 : fiN (po (rt (dF s.2.2.2)) (dB s.2.2.2 j0)) 6 with
      | none =>
        rw [e1] at c_42
        exact absurd rfl c_42
      | some f0 => exact ⟨f0, rfl⟩
    have f6 := fi_lt _ _ _ e
    have fp := fi_pos _ _ _ e
    have e3 := wo_some (t := (su (dB s.2.2.2 j0) 6)) (se := (bSe s.2.2.1 j0)) (wy := (bWy s.2.2.1 j0)) e
    have e4 := emp_some (t := (su (dB s.2.2.2 j0) 6)) (se := (bSe s.2.2.1 j0)) (wy := (bWy s.2.2.1 j0)) e
    have hla : 1 ≤ bLa s.2.2.1 := Nat.pos_of_ne_zero (fun z => by have := po_z hb (j0 := j0) (by omega) f0 (by omega) f6; omega)
    rw [e]
    refine tX12_count_47  (r := ?_)
    refine tX12_count_48 (ha := (by first | assumption | (repeat (first | assumption | exact At.set_eq2 (by first | omega | (simp only [hset, hnew]; omega) | rfl | decide) | exact At.new_eq2 _ _ (by first | omega | (simp only [hset, hnew]; omega) | rfl | decide) | refine At.set_ne ?_ (by first | omega | (simp only [hset, hnew]; omega) | rfl | decide) | refine At.new_ne ?_)))) (hv := rfl) (r := ?_)
    refine tX12_count_51 (ha := (by first | assumption | (repeat (first | assumption | exact At.set_eq2 (by first | omega | (simp only [hset, hnew]; omega) | rfl | decide) | exact At.new_eq2 _ _ (by first | omega | (simp only [hset, hnew]; omega) | rfl | decide) | refine At.set_ne ?_ (by first | omega | (simp only [hset, hnew]; omega) | rfl | decide) | refine At.new_ne ?_)))) (hv := rfl) (r := ?_)
    refine tX12_count_54  (r := ?_)
    refine tX12_count_55 (ha := (by first | assumption | (repeat (first | assumption | exact At.set_eq2 (by first | omega | (simp only [hset, hnew]; omega) | rfl | decide) | exact At.new_eq2 _ _ (by first | omega | (simp only [hset, hnew]; omega) | rfl | decide) | refine At.set_ne ?_ (by first | omega | (simp only [hset, hnew]; omega) | rfl | decide) | refine At.new_ne ?_)))) (hx := rfl) (hj := (by omega)) (hn := (by decide)) (r := ?_)
    rw [cwy _ q0]
    refine tX12_count_56  (r := ?_)
    refine tX12_count_58  (kt := fun c_58 => ?_) (kf := fun c_58 => ?_)
    · have w2 : ¬ bWy s.2.2.1 j0 = 2 := fun z => c_58 (by rw [z])
      refine tX12_count_68  (r := ?_)
      refine tX12_count_69 (ha := (by first | assumption | (repeat (first | assumption | exact At.set_eq2 (by first | omega | (simp only [hset, hnew]; omega) | rfl | decide) | exact At.new_eq2 _ _ (by first | omega | (simp only [hset, hnew]; omega) | rfl | decide) | refine At.set_ne ?_ (by first | omega | (simp only [hset, hnew]; omega) | rfl | decide) | refine At.new_ne ?_)))) (hv := rfl) (r := ?_)
      refine tX12_count_72 (ha := (by first | assumption | (repeat (first | assumption | exact At.set_eq2 (by first | omega | (simp only [hset, hnew]; omega) | rfl | decide) | exact At.new_eq2 _ _ (by first | omega | (simp only [hset, hnew]; omega) | rfl | decide) | refine At.set_ne ?_ (by first | omega | (simp only [hset, hnew]; omega) | rfl | decide) | refine At.new_ne ?_)))) (hv := rfl) (r := ?_)
      refine tX12_count_75  (r := ?_)
      refine tX12_count_76 (ha := (by first | assumption | (repeat (first | assumption | exact At.set_eq2 (by first | omega | (simp only [hset, hnew]; omega) | rfl | decide) | exact At.new_eq2 _ _ (by first | omega | (simp only [hset, hnew]; omega) | rfl | decide) | refine At.set_ne ?_ (by first | omega | (simp only [hset, hnew]; omega) | rfl | decide) | refine At.new_ne ?_)))) (hx := rfl) (hj := (by omega)) (hn := (by decide)) (r := ?_)
      rw [cwy _ q0]
      refine tX12_count_77  (r := ?_)
      refine tX12_count_79  (kt := fun c_79 => ?_) (kf := fun c_79 => ?_)
      · have w0 : ¬ bWy s.2.2.1 j0 = 0 := fun z => c_79 (by rw [z])
        refine tX12_count_92  (r := ?_)
        refine tX12_count_93  (r := ?_)
        refine (s_refdiv (h0 := h2) (by omega) hb hf (fun k hk => po_le hs k) (fun k h1_ h2_ => po_z hb (by omega) k h1_ h2_) hla hse (bSe s.2.2.1 j0) 0 h2 g (by omega) (by omega) c4 ai2 aw (fun k hk => hg k hk) (Sm.rf _ _ _)).imp (fun o9 h9 q9 => ?_)
        obtain ⟨x9, y1, y2, y3, ⟨g9, y4, y5⟩, y6⟩ := q9
        exact ⟨x9, y1, by rw [y2, e4, if_neg w2], y3, ⟨g9, y4, fun k hk => by rw [e3, if_neg w0, if_pos (by omega)]; exact y5 k hk⟩, smA.trans y6⟩
      · have w0 : bWy s.2.2.1 j0 = 0 := by have := (nI_eq (by omega) (by decide)).mp c_79; omega
        refine tX12_count_82  (r := ?_)
        refine tX12_count_83 (ha := (by first | assumption | (repeat (first | assumption | exact At.set_eq2 (by first | omega | (simp only [hset, hnew]; omega) | rfl | decide) | exact At.new_eq2 _ _ (by first | omega | (simp only [hset, hnew]; omega) | rfl | decide) | refine At.set_ne ?_ (by first | omega | (simp only [hset, hnew]; omega) | rfl | decide) | refine At.new_ne ?_)))) (hv := rfl) (r := ?_)
        refine tX12_count_86  (r := ?_)
        refine tX12_count_87  (r := ?_)
        refine tX12_count_88 (ha := (by first | assumption | (repeat (first | assumption | exact At.set_eq2 (by first | omega | (simp only [hset, hnew]; omega) | rfl | decide) | exact At.new_eq2 _ _ (by first | omega | (simp only [hset, hnew]; omega) | rfl | decide) | refine At.set_ne ?_ (by first | omega | (simp only [hset, hnew]; omega) | rfl | decide) | refine At.new_ne ?_)))) (hx := rfl) (hj := f6) (hn := (by decide)) (r := ?_)
        refine tX12_count_89 (r := ?_)
        refine tX12_count_120  (r := ?_)
        refine tX12_count_121  (hP := ?_)
        refine ⟨_, rfl, by rw [e4, if_neg w2], c4.won _, ⟨_, At.set_eq2 aw.1, fun k hk => ?_⟩, smA.set (by omega) (by omega)⟩
        rw [e3, if_pos w0]
        show (if k = f0 then nI (bSe s.2.2.1 j0) else g k) = nI (if k = f0 then bSe s.2.2.1 j0 else 0)
        by_cases z : k = f0
        · rw [if_pos z, if_pos z]
        · rw [if_neg z, if_neg z, hg k hk]
    · have w2 : bWy s.2.2.1 j0 = 2 := by have := (nI_eq (by omega) (by decide)).mp c_58; omega
      refine tX12_count_61  (r := ?_)
      refine tX12_count_62  (r := ?_)
      refine tX12_count_63  (r := ?_)
      refine tX12_count_64 (hd := (by omega)) (ha := (by first | assumption | (repeat (first | assumption | exact At.set_eq2 (by first | omega | (simp only [hset, hnew]; omega) | rfl | decide) | exact At.new_eq2 _ _ (by first | omega | (simp only [hset, hnew]; omega) | rfl | decide) | refine At.set_ne ?_ (by first | omega | (simp only [hset, hnew]; omega) | rfl | decide) | refine At.new_ne ?_)))) (call := s_refquota (d := 3) (by decide) hb q0 hse c4 ai2 aw hf hg) (k := ?_)
      rintro v h5 ⟨rfl, c5, ⟨g5, aw5, hg5⟩, sm5⟩
      refine tX12_count_67  (hP := ?_)
      refine ⟨_, rfl, by rw [e4, if_pos w2], c5, ⟨g5, aw5, fun k hk => ?_⟩, smA.trans sm5⟩
      rw [e3, if_neg (by omega), if_neg (by omega)]
      exact hg5 k hk
  · have e : fiN (po (rt (dF s.2.2.2)) (dB s.2.2.2 j0)) 6 = none := by
      cases e1 : fiN (po (rt (dF s.2.2.2)) (dB s.2.2.2 j0)) 6 with
      | none => rfl
      | some f0 =>
        rw [e1] at c_42
        have f6 := fi_lt _ _ _ e1
        have c9 : nI f0 = -1 := c_42
        rw [ci_eq_m1 (by omega)] at c9
        exact c9.elim
    refine tX12_count_45  (r := ?_)
    refine tX12_count_46  (hP := ?_)
    exact ⟨_, rfl, by rw [emp_none e], c4, ⟨g, aw, fun k hk => by rw [hg k hk, wo_none e]⟩, smA⟩

end RQY
