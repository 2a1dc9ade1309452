/-! a jar, a cupboard: counted -/
theorem su_add {f g : Nat → Nat} : ∀ n, su (fun i => f i + g i) n = su f n + su g n
  | 0 => rfl
  | n + 1 => by
    show su (fun i => f i + g i) n + (f n + g n) = su f n + f n + (su g n + g n)
    rw [su_add n]
    omega
theorem su_zero : ∀ n, su (fun _ => 0) n = 0
  | 0 => rfl
  | n + 1 => by
    show su (fun _ => 0) n + 0 = 0
    rw [su_zero n]
theorem su_one {c v : Nat} : ∀ m, su (fun k => if c = k then v else 0) m = if c < m then v else 0
  | 0 => rfl
  | m + 1 => by
    show su (fun k => if c = k then v else 0) m + (if c = m then v else 0) = _
    rw [su_one m]
    by_cases h1 : c < m
    · rw [if_pos h1, if_neg (by omega), if_pos (by omega)]
      omega
    · by_cases h2 : c = m
      · rw [if_neg h1, if_pos h2, if_pos (by omega)]
        omega
      · rw [if_neg h1, if_neg h2, if_neg (by omega)]
theorem po_sum {r b : Nat → Nat} (hr : ∀ i, i < 6 → r i < 6) : su (po r b) 6 = su b 6 := by
  have g : ∀ n, n ≤ 6 → su (fun k => su (fun i => if r i = k then b i else 0) n) 6 = su b n := by
    intro n
    induction n with
    | zero => intro _; exact su_zero 6
    | succ n ih =>
      intro hn
      show su (fun k => su (fun i => if r i = k then b i else 0) n + (if r n = k then b n else 0)) 6 = su b n + b n
      rw [su_add, ih (by omega), su_one, if_pos (hr n (by omega))]
  exact g 6 (Nat.le_refl _)
theorem po_le {r b : Nat → Nat} (hs : su b 6 ≤ 1200) (k : Nat) : po r b k ≤ 1200 := Nat.le_trans (su_if 6) hs
theorem wo_none {p : Nat → Nat} {t se wy : Nat} (e : fiN p 6 = none) (k : Nat) : wo p t se wy k = 0 := by
  unfold wo
  rw [e]
theorem wo_some {p : Nat → Nat} {t se wy f : Nat} (e : fiN p 6 = some f) : wo p t se wy = if wy = 0 then (fun k => if k = f then se else 0) else if wy = 1 then dvN p se else quo p t se := by
  unfold wo
  rw [e]
/-- a jar that has counted -/
def JaC (h : AH) (j : Nat) (b : Nat → Nat) (se wy : Nat) (r : Nat → Nat) : Prop := ∃ bf p w l tu fi ma, JarC h j bf p w l (nI se) (24 + wy) tu fi ma (nI 1) ∧ (∀ k, k < 6 → bf k = nI (b k)) ∧ Cnt r b se wy p w tu fi ma
theorem JaC.R {h : AH} {j se wy : Nat} {b r : Nat → Nat} (a : JaC h j b se wy r) : JaR h j b se wy r := by
  obtain ⟨bf, p, w, l, tu, fi, ma, a1, a2, a3⟩ := a
  exact ⟨bf, p, w, l, tu, fi, ma, _, a1, a2, Or.inr ⟨rfl, a3⟩⟩
theorem JaC.keep {h h' : AH} {j se wy : Nat} {b r : Nat → Nat} (a : JaC h j b se wy r) (e : h.1 ≤ h'.1) (u : Un h h' j (j + 5)) : JaC h' j b se wy r := by
  obtain ⟨bf, p, w, l, tu, fi, ma, a1, a2⟩ := a
  exact ⟨bf, p, w, l, tu, fi, ma, a1.keep e u, a2⟩
section JC
variable {G : GT} {d : Nat} {h : AH} {j A : Nat}

set_option maxHeartbeats 4000000 in
set_option maxRecDepth 100000 in
theorem s_count (hd : 1 ≤ d) {b r : Nat → Nat} {se wy : Nat} {le : Nat → Int32} (jr : JaR h j b se wy r) (hle : ∀ k, k < 6 → le k = nI (r k)) (hr : ∀ k, k < 6 → r k < 6) (hs : su b 6 ≤ 1200) (hse : se ≤ 9) (hwy : wy < 3) (hA : A < j ∨ j + 5 ≤ A) (aA : At h A (.inl (0, 6, .inl le))) : RQ G mX4_count d 0 [some (.ref j), some (.ref A)] [] h (Rv fun h1 => JaC h1 j b se wy r ∧ Sm h h1 j (j + 5)) := by
  obtain ⟨bf, p, w, l, tu, fi, ma, co, jc, hbf, hco⟩ := jr
  obtain ⟨a0, a1, a2, a3, a4⟩ := id jc
  have l0 := a0.1
  rcases hco with rfl | ⟨rfl, cn⟩
  · refine tX4_count_0  (r := ?_)
    refine tX4_count_1 (ha := (by first | assumption | (repeat (first | assumption | exact At.set_eq2 (by first | omega | (simp only [hset, hnew]; omega) | rfl | decide) | exact At.new_eq2 _ _ (by first | omega | (simp only [hset, hnew]; omega) | rfl | decide) | refine At.set_ne ?_ (by first | omega | (simp only [hset, hnew]; omega) | rfl | decide) | refine At.new_ne ?_)))) (hv := rfl) (r := ?_)
    refine tX4_count_4  (kf := fun c_ => by exfalso; exact c_ nI_0) (kt := fun _ => ?_)
    refine tX4_count_8  (r := ?_)
    refine tX4_count_9  (r := ?_)
    refine tX4_count_10 (ha := (by first | assumption | (repeat (first | assumption | exact At.set_eq2 (by first | omega | (simp only [hset, hnew]; omega) | rfl | decide) | exact At.new_eq2 _ _ (by first | omega | (simp only [hset, hnew]; omega) | rfl | decide) | refine At.set_ne ?_ (by first | omega | (simp only [hset, hnew]; omega) | rfl | decide) | refine At.new_ne ?_)))) (hlen := rfl) (hb := (by first | exact Or.inl rfl | exact Or.inr rfl | assumption)) (r := ?_)
    have jc1 : JarC (hset h j (.inr (3, [.ref (j + 1), .ref (j + 2), .ref (j + 3), .ref (j + 4), .int (nI se), .ref (OLD + (24 + wy)), .int tu, .int fi, .int ma, .int (nI 1)]))) j bf p w l (nI se) (24 + wy) tu fi ma (nI 1) := ⟨At.set_eq2 l0, by (first | assumption | (repeat (first | assumption | exact At.set_eq2 (by (first | omega | (simp only [hset, hnew]; omega) | rfl | decide)) | exact At.new_eq2 _ _ (by (first | omega | (simp only [hset, hnew]; omega) | rfl | decide)) | refine At.set_ne ?_ (by (first | omega | (simp only [hset, hnew]; omega) | rfl | decide)) | refine At.new_ne ?_))), by (first | assumption | (repeat (first | assumption | exact At.set_eq2 (by (first | omega | (simp only [hset, hnew]; omega) | rfl | decide)) | exact At.new_eq2 _ _ (by (first | omega | (simp only [hset, hnew]; omega) | rfl | decide)) | refine At.set_ne ?_ (by (first | omega | (simp only [hset, hnew]; omega) | rfl | decide)) | refine At.new_ne ?_))), by (first | assumption | (repeat (first | assumption | exact At.set_eq2 (by (first | omega | (simp only [hset, hnew]; omega) | rfl | decide)) | exact At.new_eq2 _ _ (by (first | omega | (simp only [hset, hnew]; omega) | rfl | decide)) | refine At.set_ne ?_ (by (first | omega | (simp only [hset, hnew]; omega) | rfl | decide)) | refine At.new_ne ?_))), by (first | assumption | (repeat (first | assumption | exact At.set_eq2 (by (first | omega | (simp only [hset, hnew]; omega) | rfl | decide)) | exact At.new_eq2 _ _ (by (first | omega | (simp only [hset, hnew]; omega) | rfl | decide)) | refine At.set_ne ?_ (by (first | omega | (simp only [hset, hnew]; omega) | rfl | decide)) | refine At.new_ne ?_)))⟩
    have sm1 := (Sm.rf h j (j + 5)).set (i := j) (c := .inr (3, [.ref (j + 1), .ref (j + 2), .ref (j + 3), .ref (j + 4), .int (nI se), .ref (OLD + (24 + wy)), .int tu, .int fi, .int ma, .int (nI 1)])) (by omega) (by omega)
    refine tX4_count_13  (r := ?_)
    refine tX4_count_14  (r := ?_)
    refine tX4_count_15 (hd := (by omega)) (ha := jc1.1) (call := s_pool (d := 0) hbf hle hr hs hA (sm1.at aA (by omega)) jc1) (k := ?_)
    intro h2 hq
    obtain ⟨p2, w2, jc2, hp2, hw2, sm2⟩ := hq
    have sm2 := sm1.trans (sm2.sub (Nat.le_refl _) (by omega))
    refine tX4_count_18  (r := ?_)
    refine tX4_count_19 (hd := (by omega)) (ha := jc2.1) (call := s_first (d := 0) hp2 (fun k hk => po_le hs k) jc2) (k := ?_)
    intro h3 hq
    obtain ⟨jc3, sm3⟩ := hq
    have sm3 := sm2.trans (sm3.sub (Nat.le_refl _) (by omega))
    obtain ⟨b0, b1, b2, b3, b4⟩ := id jc3
    have k0 := b0.1
    have k3 := b3.1
    refine tX4_count_22  (r := ?_)
    refine tX4_count_23 (ha := (by first | assumption | (repeat (first | assumption | exact At.set_eq2 (by first | omega | (simp only [hset, hnew]; omega) | rfl | decide) | exact At.new_eq2 _ _ (by first | omega | (simp only [hset, hnew]; omega) | rfl | decide) | refine At.set_ne ?_ (by first | omega | (simp only [hset, hnew]; omega) | rfl | decide) | refine At.new_ne ?_)))) (hv := rfl) (r := ?_)
    refine tX4_count_26  (r := ?_)
    refine tX4_count_27  (kt := fun c_27 => ?_) (kf := fun c_27 => ?_)
    · obtain ⟨f, e⟩ : ∃ f, fiN (po r b) 6 = some f := by
        cases e1 : fiN (po r b) 6 with
        | none =>
          rw [e1] at c_27
          exact absurd rfl c_27
        | some f => exact ⟨f, rfl⟩
      have f6 := fi_lt _ _ _ e
      have e3 := wo_some (t := su b 6) (se := se) (wy := wy) e
      rw [e] at jc3 b0
      refine tX4_count_31  (r := ?_)
      refine tX4_count_32 (ha := (by first | assumption | (repeat (first | assumption | exact At.set_eq2 (by first | omega | (simp only [hset, hnew]; omega) | rfl | decide) | exact At.new_eq2 _ _ (by first | omega | (simp only [hset, hnew]; omega) | rfl | decide) | refine At.set_ne ?_ (by first | omega | (simp only [hset, hnew]; omega) | rfl | decide) | refine At.new_ne ?_)))) (hv := rfl) (r := ?_)
      refine tX4_count_35  (r := ?_)
      refine tX4_count_38 (hi := (by omega)) (hj := (by decide)) (kt := fun c_38 => ?_) (kf := fun c_38 => ?_)
      · refine tX4_count_57  (r := ?_)
        refine tX4_count_58 (ha := (by first | assumption | (repeat (first | assumption | exact At.set_eq2 (by first | omega | (simp only [hset, hnew]; omega) | rfl | decide) | exact At.new_eq2 _ _ (by first | omega | (simp only [hset, hnew]; omega) | rfl | decide) | refine At.set_ne ?_ (by first | omega | (simp only [hset, hnew]; omega) | rfl | decide) | refine At.new_ne ?_)))) (hv := rfl) (r := ?_)
        refine tX4_count_61  (r := ?_)
        refine tX4_count_64 (hi := (by omega)) (hj := (by decide)) (kt := fun c_64 => ?_) (kf := fun c_64 => ?_)
        · refine tX4_count_74  (r := ?_)
          refine tX4_count_75 (hd := (by omega)) (ha := b0) (call := s_quo (d := 0) hp2 (fun k hk => po_le hs k) hse (po_sum hr) hs jc3) (k := ?_)
          intro h4 hq
          obtain ⟨w4, l4, jc4, hw4, sm4⟩ := hq
          have sm4 := sm3.trans sm4
          refine tX4_count_78  (hP := ?_)
          rw [if_neg (by omega), if_neg (by omega)] at e3
          exact ⟨rfl, ⟨bf, p2, w4, l4, _, _, _, jc4, hbf, hp2, fun k hk => by rw [e3]; exact hw4 k hk, rfl, by rw [e], rfl⟩, sm4⟩
        · refine tX4_count_67  (r := ?_)
          refine tX4_count_68 (hd := (by omega)) (ha := b0) (call := s_div (d := 0) hp2 (fun k hk => po_le hs k) hse f6 jc3 hw2) (k := ?_)
          intro h4 hq
          obtain ⟨w4, jc4, hw4, sm4⟩ := hq
          have sm4 := sm3.trans (sm4.sub (Nat.le_refl _) (by omega))
          refine tX4_count_71 (r := ?_)
          refine tX4_count_78  (hP := ?_)
          have hw0 : wy = 1 := by omega
          rw [if_neg (by omega), if_pos hw0] at e3
          exact ⟨rfl, ⟨bf, p2, w4, l, _, _, _, jc4, hbf, hp2, fun k hk => by rw [e3]; exact hw4 k hk, rfl, by rw [e]; rfl, rfl⟩, sm4⟩
      · refine tX4_count_41  (r := ?_)
        refine tX4_count_42 (ha := (by first | assumption | (repeat (first | assumption | exact At.set_eq2 (by first | omega | (simp only [hset, hnew]; omega) | rfl | decide) | exact At.new_eq2 _ _ (by first | omega | (simp only [hset, hnew]; omega) | rfl | decide) | refine At.set_ne ?_ (by first | omega | (simp only [hset, hnew]; omega) | rfl | decide) | refine At.new_ne ?_)))) (hv := rfl) (r := ?_)
        refine tX4_count_45  (r := ?_)
        refine tX4_count_46 (ha := (by first | assumption | (repeat (first | assumption | exact At.set_eq2 (by first | omega | (simp only [hset, hnew]; omega) | rfl | decide) | exact At.new_eq2 _ _ (by first | omega | (simp only [hset, hnew]; omega) | rfl | decide) | refine At.set_ne ?_ (by first | omega | (simp only [hset, hnew]; omega) | rfl | decide) | refine At.new_ne ?_)))) (hv := rfl) (r := ?_)
        refine tX4_count_49  (r := ?_)
        refine tX4_count_50 (ha := (by first | assumption | (repeat (first | assumption | exact At.set_eq2 (by first | omega | (simp only [hset, hnew]; omega) | rfl | decide) | exact At.new_eq2 _ _ (by first | omega | (simp only [hset, hnew]; omega) | rfl | decide) | refine At.set_ne ?_ (by first | omega | (simp only [hset, hnew]; omega) | rfl | decide) | refine At.new_ne ?_)))) (hv := rfl) (r := ?_)
        refine tX4_count_53 (ha := (by first | assumption | (repeat (first | assumption | exact At.set_eq2 (by first | omega | (simp only [hset, hnew]; omega) | rfl | decide) | exact At.new_eq2 _ _ (by first | omega | (simp only [hset, hnew]; omega) | rfl | decide) | refine At.set_ne ?_ (by first | omega | (simp only [hset, hnew]; omega) | rfl | decide) | refine At.new_ne ?_)))) (hx := rfl) (hj := f6) (hn := (by decide)) (r := ?_)
        refine tX4_count_54 (r := ?_)
        refine tX4_count_78  (hP := ?_)
        have hw0 : wy = 0 := by omega
        rw [if_pos hw0] at e3
        refine ⟨rfl, ⟨bf, p2, upd w2 f (nI se), l, _, _, _, ⟨by (first | assumption | (repeat (first | assumption | exact At.set_eq2 (by (first | omega | (simp only [hset, hnew]; omega) | rfl | decide)) | exact At.new_eq2 _ _ (by (first | omega | (simp only [hset, hnew]; omega) | rfl | decide)) | refine At.set_ne ?_ (by (first | omega | (simp only [hset, hnew]; omega) | rfl | decide)) | refine At.new_ne ?_))), by (first | assumption | (repeat (first | assumption | exact At.set_eq2 (by (first | omega | (simp only [hset, hnew]; omega) | rfl | decide)) | exact At.new_eq2 _ _ (by (first | omega | (simp only [hset, hnew]; omega) | rfl | decide)) | refine At.set_ne ?_ (by (first | omega | (simp only [hset, hnew]; omega) | rfl | decide)) | refine At.new_ne ?_))), by (first | assumption | (repeat (first | assumption | exact At.set_eq2 (by (first | omega | (simp only [hset, hnew]; omega) | rfl | decide)) | exact At.new_eq2 _ _ (by (first | omega | (simp only [hset, hnew]; omega) | rfl | decide)) | refine At.set_ne ?_ (by (first | omega | (simp only [hset, hnew]; omega) | rfl | decide)) | refine At.new_ne ?_))), At.set_eq2 k3, by (first | assumption | (repeat (first | assumption | exact At.set_eq2 (by (first | omega | (simp only [hset, hnew]; omega) | rfl | decide)) | exact At.new_eq2 _ _ (by (first | omega | (simp only [hset, hnew]; omega) | rfl | decide)) | refine At.set_ne ?_ (by (first | omega | (simp only [hset, hnew]; omega) | rfl | decide)) | refine At.new_ne ?_)))⟩, hbf, hp2, fun k hk => ?_, rfl, by rw [e], rfl⟩, sm3.set (by omega) (by omega)⟩
        rw [e3]
        show (if k = f then nI se else w2 k) = nI (if k = f then se else 0)
        by_cases q : k = f
        · rw [if_pos q, if_pos q]
        · rw [if_neg q, if_neg q, hw2 k hk]
    · have e : fiN (po r b) 6 = none := by
        cases e1 : fiN (po r b) 6 with
        | none => rfl
        | some f =>
          rw [e1] at c_27
          have f6 := fi_lt _ _ _ e1
          have c9 : nI f = -1 := c_27
          rw [ci_eq_m1 (by omega)] at c9
          exact c9.elim
      refine tX4_count_30  (hP := ?_)
      exact ⟨rfl, ⟨bf, p2, w2, l, _, _, _, jc3, hbf, hp2, fun k hk => by rw [hw2 k hk, wo_none e], rfl, rfl, rfl⟩, sm3⟩
  · refine tX4_count_0  (r := ?_)
    refine tX4_count_1 (ha := (by first | assumption | (repeat (first | assumption | exact At.set_eq2 (by first | omega | (simp only [hset, hnew]; omega) | rfl | decide) | exact At.new_eq2 _ _ (by first | omega | (simp only [hset, hnew]; omega) | rfl | decide) | refine At.set_ne ?_ (by first | omega | (simp only [hset, hnew]; omega) | rfl | decide) | refine At.new_ne ?_)))) (hv := rfl) (r := ?_)
    refine tX4_count_4  (kt := fun c_ => by exfalso; exact absurd c_ (by decide)) (kf := fun _ => ?_)
    refine tX4_count_7  (hP := ?_)
    exact ⟨rfl, ⟨bf, p, w, l, tu, fi, ma, jc, hbf, cn⟩, Sm.rf _ _ _⟩

theorem rt_lt6 {B : BK} {D : DY} (hb : BDok B D) (k : Nat) (hk : k < 6) : rt (dF D) k < 6 := by
  have l1 := hb.1
  by_cases h1 : k < bLa B
  · exact Nat.lt_of_lt_of_le (rt_lt hb 6 k h1) l1
  · have e : dF D k = none := by
      cases e : dF D k with
      | none => rfl
      | some i => exact absurd (hb.2.2.2.2.2.2.2.2.1 k i hk e).1 h1
    have e2 : rt (dF D) k = k := by simp [rt, rtn, e]
    omega
theorem CuR.set {h h1 : AH} {c : Nat} {B : BK} {D : DY} (q : CuR h c B D) {i : Nat} (hi : i < 8) (jr : JaR h1 (c + 5 + 5 * i) (dB D i) (bSe B i) (bWy B i) (rt (dF D))) (sm : Sm h h1 (c + 5 + 5 * i) (c + 5 + 5 * i + 5)) : CuR h1 c B D := by
  obtain ⟨jf, lj, fo, le, a1, a2, a3, a4, a5, a6, a7, a8, a9, a10⟩ := q
  refine ⟨jf, lj, fo, le, sm.at a1 (by omega), sm.at a2 (by omega), sm.at a3 (by omega), sm.at a4 (by omega), sm.at a5 (by omega), a6, a7, a8, a9, fun k hk => ?_⟩
  by_cases e : k = i
  · subst e
    exact jr
  · rcases Nat.lt_or_gt_of_ne e with e | e
    · exact (a10 k hk).keep (Nat.le_of_eq sm.1.symm) (sm.2.2.1.sub (Nat.zero_le _) (by omega))
    · obtain ⟨bf, p, w, l, tu, fi, ma, co, ⟨z0, z1, z2, z3, z4⟩, z5⟩ := a10 k hk
      exact ⟨bf, p, w, l, tu, fi, ma, co, ⟨sm.at z0 (by omega), sm.at z1 (by omega), sm.at z2 (by omega), sm.at z3 (by omega), sm.at z4 (by omega)⟩, z5⟩

set_option maxHeartbeats 4000000 in
set_option maxRecDepth 100000 in
theorem s_counted (hd : 3 ≤ d) {c : Nat} {B : BK} {D : DY} (q : CuR h c B D) (hb : BDok B D) {i : Nat} (hi : i < 8) : RQ G mX3_counted d 0 [some (.ref c), some (.int (nI i))] [] h (fun o h1 => o = .inl (some (.ref (c + 5 + 5 * i))) ∧ JaC h1 (c + 5 + 5 * i) (dB D i) (bSe B i) (bWy B i) (rt (dF D)) ∧ CuR h1 c B D ∧ Sm h h1 (c + 5 + 5 * i) (c + 5 + 5 * i + 5)) := by
  obtain ⟨jf, lj, fo, le, u0, u1, u2, u3, u4, u5, u6, u7, u8, u9⟩ := id q
  obtain ⟨z1, z2⟩ := hb.2.2.2.1 i hi
  have z3 := hb.2.2.2.2.2.2.1 i hi
  obtain ⟨bf, p, w, l, tu, fi, ma, co, ⟨b0, b1, b2, b3, b4⟩, -, -⟩ := id (u9 i hi)
  refine tX3_counted_0  (r := ?_)
  refine tX3_counted_1 (ha := (by first | assumption | (repeat (first | assumption | exact At.set_eq2 (by first | omega | (simp only [hset, hnew]; omega) | rfl | decide) | exact At.new_eq2 _ _ (by first | omega | (simp only [hset, hnew]; omega) | rfl | decide) | refine At.set_ne ?_ (by first | omega | (simp only [hset, hnew]; omega) | rfl | decide) | refine At.new_ne ?_)))) (hv := rfl) (r := ?_)
  refine tX3_counted_4  (r := ?_)
  refine tX3_counted_5 (ha := (by first | assumption | (repeat (first | assumption | exact At.set_eq2 (by first | omega | (simp only [hset, hnew]; omega) | rfl | decide) | exact At.new_eq2 _ _ (by first | omega | (simp only [hset, hnew]; omega) | rfl | decide) | refine At.set_ne ?_ (by first | omega | (simp only [hset, hnew]; omega) | rfl | decide) | refine At.new_ne ?_)))) (hx := rfl) (hj := hi) (hn := (by decide)) (hf := (u5 _ hi)) (r := ?_)
  refine tX3_counted_6  (r := ?_)
  refine tX3_counted_7 (ha := (by first | assumption | (repeat (first | assumption | exact At.set_eq2 (by first | omega | (simp only [hset, hnew]; omega) | rfl | decide) | exact At.new_eq2 _ _ (by first | omega | (simp only [hset, hnew]; omega) | rfl | decide) | refine At.set_ne ?_ (by first | omega | (simp only [hset, hnew]; omega) | rfl | decide) | refine At.new_ne ?_)))) (hv := rfl) (r := ?_)
  refine tX3_counted_10 (hd := (by omega)) (ha := (by first | assumption | (repeat (first | assumption | exact At.set_eq2 (by first | omega | (simp only [hset, hnew]; omega) | rfl | decide) | exact At.new_eq2 _ _ (by first | omega | (simp only [hset, hnew]; omega) | rfl | decide) | refine At.set_ne ?_ (by first | omega | (simp only [hset, hnew]; omega) | rfl | decide) | refine At.new_ne ?_)))) (call := s_count (d := 2) (by decide) (u9 i hi) u8 (rt_lt6 hb) z3 z1 z2 (by omega) u4) (k := ?_)
  intro h1 hq
  obtain ⟨jc, sm⟩ := hq
  have u0 := sm.at u0 (by omega)
  have u1 := sm.at u1 (by omega)
  refine tX3_counted_13  (r := ?_)
  refine tX3_counted_14 (ha := (by first | assumption | (repeat (first | assumption | exact At.set_eq2 (by first | omega | (simp only [hset, hnew]; omega) | rfl | decide) | exact At.new_eq2 _ _ (by first | omega | (simp only [hset, hnew]; omega) | rfl | decide) | refine At.set_ne ?_ (by first | omega | (simp only [hset, hnew]; omega) | rfl | decide) | refine At.new_ne ?_)))) (hv := rfl) (r := ?_)
  refine tX3_counted_17  (r := ?_)
  refine tX3_counted_18 (ha := (by first | assumption | (repeat (first | assumption | exact At.set_eq2 (by first | omega | (simp only [hset, hnew]; omega) | rfl | decide) | exact At.new_eq2 _ _ (by first | omega | (simp only [hset, hnew]; omega) | rfl | decide) | refine At.set_ne ?_ (by first | omega | (simp only [hset, hnew]; omega) | rfl | decide) | refine At.new_ne ?_)))) (hx := rfl) (hj := hi) (hn := (by decide)) (hf := (u5 _ hi)) (r := ?_)
  refine tX3_counted_19  (hP := ?_)
  exact ⟨rfl, jc, q.set hi jc.R sm, sm⟩

end JC
