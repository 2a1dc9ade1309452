/-! a case's contract out of the class's and the reference's -/
section KC
variable {G : GT} {d2 dc n : Nat}
/-- a call: what the two owe of it; X: what is said of the answer -/
def OpC (G : GT) (Cm Mm : MI) (dc dm : Nat) (Lc Lm : List (Option Value)) (E1 E2 : String) (X : Int32 → Prop) (h : AH) (s : ST) : Prop := ∃ (t : Nat) (V : Int32) (s' : ST) (bk dr : Nat), BDok s'.2.2.1 s'.2.2.2 ∧ X V ∧ RQ G Cm dc 0 Lc [] h (CK h bk dr s' E1 E2 t V) ∧ ∀ h1, MoR h1 216 s → ToR h1 216 s.2.2.1 → RQ G Mm dm 0 Lm [] h1 (MK h1 s' t V)
theorem Jd.poll {h : AH} {s : ST} {bk dr : Nat} (j : Jd h s bk dr) : At h 0 (.inr (8, [.ref (0 + 1), .ref (0 + 3), .ref (0 + 66), .ref (0 + 111), .ref (0 + 156), .ref bk, .int s.2.1])) := j.2.1.1

set_option maxHeartbeats 4000000 in
set_option maxRecDepth 100000 in
theorem kc_feed (hd : dc + 1 ≤ d2) (O : ∀ (h : AH) (s : ST) (bk dr : Nat) (a0 a1 a2 a3 a4 : Int32), Jd h s bk dr → OpC G mX10_feed mX12_feed dc d2 [some (.ref 0), some (.int a0), some (.int a1), some (.int a2), some (.int a3), some (.int a4)] [some (.ref 216), some (.int a0), some (.int a1), some (.int a2), some (.int a3), some (.int a4), none, none, none, none, none, none] "java/lang/IllegalStateException" "" (fun _ => True) h s) : Kc_feed G d2 0 216 269 J n := by
  intro h a0 a1 a2 a3 a4 hj
  obtain ⟨s, bk, dr, j, hn1, hn2⟩ := hj
  obtain ⟨t, V, s2, bk2, dr2, ok2, hX, k, mo⟩ := O h s bk dr a0 a1 a2 a3 a4 j
  refine w_feed (x := 0) (out := 269) hd j.poll k (fun o h1 p => ?_)
  obtain ⟨p1, hc, ch0⟩ := p
  have ch : Ch h h1 0 216 1 6 := ch0.sub (Nat.le_refl _) (Nat.le_refl _) (by omega) (by omega)
  clear ch0
  rcases p1 with ⟨rfl, rfl⟩ | ⟨rfl, rfl⟩ | ⟨rfl, hE2, rfl⟩
  · obtain ⟨f, af⟩ := j.out ch
    refine Or.inl ⟨V, f, rfl, af, ?_⟩
    have q := (glue0 (X := (fun _ => True)) j hn1 hn2 ok2 hX mo hc ch af)
    exact ⟨q.1, q.2.imp (fun o3 h3 q3 => by obtain ⟨b, e, q1, q2, -, q4⟩ := q3; exact ⟨b, e, q1, q2, q4⟩)⟩
  · refine Or.inr ⟨rfl, ?_⟩
    have q := (glue1 (X := (fun _ => True)) j hn1 hn2 (Or.inl rfl) ok2 hX mo hc ch)
    exact ⟨q.1, q.2.imp (fun o3 h3 q3 => by obtain ⟨b, e, q1, q2, -, q4⟩ := q3; exact ⟨b, e, q1, q2, q4⟩)⟩
  · exact absurd rfl hE2

set_option maxHeartbeats 4000000 in
set_option maxRecDepth 100000 in
theorem kc_trim (hd : dc + 1 ≤ d2) (O : ∀ (h : AH) (s : ST) (bk dr : Nat) (a0 : Int32), Jd h s bk dr → OpC G mX10_trim mX12_trim dc d2 [some (.ref 0), some (.int a0)] [some (.ref 216), some (.int a0)] "java/lang/IllegalArgumentException" "" (fun _ => True) h s) : Kc_trim G d2 0 216 269 J n := by
  intro h a0 hj
  obtain ⟨s, bk, dr, j, hn1, hn2⟩ := hj
  obtain ⟨t, V, s2, bk2, dr2, ok2, hX, k, mo⟩ := O h s bk dr a0 j
  refine w_trim (x := 0) (out := 269) hd j.poll k (fun o h1 p => ?_)
  obtain ⟨p1, hc, ch0⟩ := p
  have ch : Ch h h1 0 216 1 6 := ch0.sub (Nat.le_refl _) (Nat.le_refl _) (by omega) (by omega)
  clear ch0
  rcases p1 with ⟨rfl, rfl⟩ | ⟨rfl, rfl⟩ | ⟨rfl, hE2, rfl⟩
  · obtain ⟨f, af⟩ := j.out ch
    refine Or.inl ⟨V, f, rfl, af, ?_⟩
    have q := (glue0 (X := (fun _ => True)) j hn1 hn2 ok2 hX mo hc ch af)
    exact ⟨q.1, q.2.imp (fun o3 h3 q3 => by obtain ⟨b, e, q1, q2, -, q4⟩ := q3; exact ⟨b, e, q1, q2, q4⟩)⟩
  · refine Or.inr ⟨rfl, ?_⟩
    have q := (glue1 (X := (fun _ => True)) j hn1 hn2 (Or.inl rfl) ok2 hX mo hc ch)
    exact ⟨q.1, q.2.imp (fun o3 h3 q3 => by obtain ⟨b, e, q1, q2, -, q4⟩ := q3; exact ⟨b, e, q1, q2, q4⟩)⟩
  · exact absurd rfl hE2

set_option maxHeartbeats 4000000 in
set_option maxRecDepth 100000 in
theorem kc_beansIn (hd : dc + 1 ≤ d2) (O : ∀ (h : AH) (s : ST) (bk dr : Nat) (a0 a1 : Int32), Jd h s bk dr → OpC G mX10_beansIn mX12_beansIn dc d2 [some (.ref 0), some (.int a0), some (.int a1)] [some (.ref 216), some (.int a0), some (.int a1)] "java/lang/IndexOutOfBoundsException" "" (fun _ => True) h s) : Kc_beansIn G d2 0 216 269 J n := by
  intro h a0 a1 hj
  obtain ⟨s, bk, dr, j, hn1, hn2⟩ := hj
  obtain ⟨t, V, s2, bk2, dr2, ok2, hX, k, mo⟩ := O h s bk dr a0 a1 j
  refine w_beansIn (x := 0) (out := 269) hd j.poll k (fun o h1 p => ?_)
  obtain ⟨p1, hc, ch0⟩ := p
  have ch : Ch h h1 0 216 1 6 := ch0.sub (Nat.le_refl _) (Nat.le_refl _) (by omega) (by omega)
  clear ch0
  rcases p1 with ⟨rfl, rfl⟩ | ⟨rfl, rfl⟩ | ⟨rfl, hE2, rfl⟩
  · obtain ⟨f, af⟩ := j.out ch
    refine Or.inl ⟨V, f, rfl, af, ?_⟩
    have q := (glue0 (X := (fun _ => True)) j hn1 hn2 ok2 hX mo hc ch af)
    exact ⟨q.1, q.2.imp (fun o3 h3 q3 => by obtain ⟨b, e, q1, q2, -, q4⟩ := q3; exact ⟨b, e, q1, q2, q4⟩)⟩
  · refine Or.inr ⟨rfl, ?_⟩
    have q := (glue1 (X := (fun _ => True)) j hn1 hn2 (Or.inl rfl) ok2 hX mo hc ch)
    exact ⟨q.1, q.2.imp (fun o3 h3 q3 => by obtain ⟨b, e, q1, q2, -, q4⟩ := q3; exact ⟨b, e, q1, q2, q4⟩)⟩
  · exact absurd rfl hE2

set_option maxHeartbeats 4000000 in
set_option maxRecDepth 100000 in
theorem kc_beansOf (hd : dc + 1 ≤ d2) (O : ∀ (h : AH) (s : ST) (bk dr : Nat) (a0 : Int32), Jd h s bk dr → OpC G mX10_beansOf mX12_beansOf dc d2 [some (.ref 0), some (.int a0), none, none] [some (.ref 216), some (.int a0)] "java/lang/IndexOutOfBoundsException" "" (fun _ => True) h s) : Kc_beansOf G d2 0 216 269 J n := by
  intro h a0 hj
  obtain ⟨s, bk, dr, j, hn1, hn2⟩ := hj
  obtain ⟨t, V, s2, bk2, dr2, ok2, hX, k, mo⟩ := O h s bk dr a0 j
  refine w_beansOf (x := 0) (out := 269) hd j.poll k (fun o h1 p => ?_)
  obtain ⟨p1, hc, ch0⟩ := p
  have ch : Ch h h1 0 216 1 6 := ch0.sub (Nat.le_refl _) (Nat.le_refl _) (by omega) (by omega)
  clear ch0
  rcases p1 with ⟨rfl, rfl⟩ | ⟨rfl, rfl⟩ | ⟨rfl, hE2, rfl⟩
  · obtain ⟨f, af⟩ := j.out ch
    refine Or.inl ⟨V, f, rfl, af, ?_⟩
    have q := (glue0 (X := (fun _ => True)) j hn1 hn2 ok2 hX mo hc ch af)
    exact ⟨q.1, q.2.imp (fun o3 h3 q3 => by obtain ⟨b, e, q1, q2, -, q4⟩ := q3; exact ⟨b, e, q1, q2, q4⟩)⟩
  · refine Or.inr ⟨rfl, ?_⟩
    have q := (glue1 (X := (fun _ => True)) j hn1 hn2 (Or.inl rfl) ok2 hX mo hc ch)
    exact ⟨q.1, q.2.imp (fun o3 h3 q3 => by obtain ⟨b, e, q1, q2, -, q4⟩ := q3; exact ⟨b, e, q1, q2, q4⟩)⟩
  · exact absurd rfl hE2

set_option maxHeartbeats 4000000 in
set_option maxRecDepth 100000 in
theorem kc_turnout (hd : dc + 1 ≤ d2) (O : ∀ (h : AH) (s : ST) (bk dr : Nat) (a0 : Int32), Jd h s bk dr → OpC G mX10_turnout mX12_turnout dc d2 [some (.ref 0), some (.int a0)] [some (.ref 216), some (.int a0)] "java/lang/IndexOutOfBoundsException" "" (fun _ => True) h s) : Kc_turnout G d2 0 216 269 J n := by
  intro h a0 hj
  obtain ⟨s, bk, dr, j, hn1, hn2⟩ := hj
  obtain ⟨t, V, s2, bk2, dr2, ok2, hX, k, mo⟩ := O h s bk dr a0 j
  refine w_turnout (x := 0) (out := 269) hd j.poll k (fun o h1 p => ?_)
  obtain ⟨p1, hc, ch0⟩ := p
  have ch : Ch h h1 0 216 1 6 := ch0.sub (Nat.le_refl _) (Nat.le_refl _) (by omega) (by omega)
  clear ch0
  rcases p1 with ⟨rfl, rfl⟩ | ⟨rfl, rfl⟩ | ⟨rfl, hE2, rfl⟩
  · obtain ⟨f, af⟩ := j.out ch
    refine Or.inl ⟨V, f, rfl, af, ?_⟩
    have q := (glue0 (X := (fun _ => True)) j hn1 hn2 ok2 hX mo hc ch af)
    exact ⟨q.1, q.2.imp (fun o3 h3 q3 => by obtain ⟨b, e, q1, q2, -, q4⟩ := q3; exact ⟨b, e, q1, q2, q4⟩)⟩
  · refine Or.inr ⟨rfl, ?_⟩
    have q := (glue1 (X := (fun _ => True)) j hn1 hn2 (Or.inl rfl) ok2 hX mo hc ch)
    exact ⟨q.1, q.2.imp (fun o3 h3 q3 => by obtain ⟨b, e, q1, q2, -, q4⟩ := q3; exact ⟨b, e, q1, q2, q4⟩)⟩
  · exact absurd rfl hE2

set_option maxHeartbeats 4000000 in
set_option maxRecDepth 100000 in
theorem kc_seatsOf (hd : dc + 1 ≤ d2) (O : ∀ (h : AH) (s : ST) (bk dr : Nat) (a0 : Int32), Jd h s bk dr → OpC G mX10_seatsOf mX12_seatsOf dc d2 [some (.ref 0), some (.int a0)] [some (.ref 216), some (.int a0)] "java/lang/IndexOutOfBoundsException" "" (fun _ => True) h s) : Kc_seatsOf G d2 0 216 269 J n := by
  intro h a0 hj
  obtain ⟨s, bk, dr, j, hn1, hn2⟩ := hj
  obtain ⟨t, V, s2, bk2, dr2, ok2, hX, k, mo⟩ := O h s bk dr a0 j
  refine w_seatsOf (x := 0) (out := 269) hd j.poll k (fun o h1 p => ?_)
  obtain ⟨p1, hc, ch0⟩ := p
  have ch : Ch h h1 0 216 1 6 := ch0.sub (Nat.le_refl _) (Nat.le_refl _) (by omega) (by omega)
  clear ch0
  rcases p1 with ⟨rfl, rfl⟩ | ⟨rfl, rfl⟩ | ⟨rfl, hE2, rfl⟩
  · obtain ⟨f, af⟩ := j.out ch
    refine Or.inl ⟨V, f, rfl, af, ?_⟩
    have q := (glue0 (X := (fun _ => True)) j hn1 hn2 ok2 hX mo hc ch af)
    exact ⟨q.1, q.2.imp (fun o3 h3 q3 => by obtain ⟨b, e, q1, q2, -, q4⟩ := q3; exact ⟨b, e, q1, q2, q4⟩)⟩
  · refine Or.inr ⟨rfl, ?_⟩
    have q := (glue1 (X := (fun _ => True)) j hn1 hn2 (Or.inl rfl) ok2 hX mo hc ch)
    exact ⟨q.1, q.2.imp (fun o3 h3 q3 => by obtain ⟨b, e, q1, q2, -, q4⟩ := q3; exact ⟨b, e, q1, q2, q4⟩)⟩
  · exact absurd rfl hE2

set_option maxHeartbeats 4000000 in
set_option maxRecDepth 100000 in
theorem kc_leaderOf (hd : dc + 1 ≤ d2) (O : ∀ (h : AH) (s : ST) (bk dr : Nat) (a0 : Int32), Jd h s bk dr → OpC G mX10_leaderOf mX12_leaderOf dc d2 [some (.ref 0), some (.int a0)] [some (.ref 216), some (.int a0)] "java/lang/IndexOutOfBoundsException" "" (fun _ => True) h s) : Kc_leaderOf G d2 0 216 269 J n := by
  intro h a0 hj
  obtain ⟨s, bk, dr, j, hn1, hn2⟩ := hj
  obtain ⟨t, V, s2, bk2, dr2, ok2, hX, k, mo⟩ := O h s bk dr a0 j
  refine w_leaderOf (x := 0) (out := 269) hd j.poll k (fun o h1 p => ?_)
  obtain ⟨p1, hc, ch0⟩ := p
  have ch : Ch h h1 0 216 1 6 := ch0.sub (Nat.le_refl _) (Nat.le_refl _) (by omega) (by omega)
  clear ch0
  rcases p1 with ⟨rfl, rfl⟩ | ⟨rfl, rfl⟩ | ⟨rfl, hE2, rfl⟩
  · obtain ⟨f, af⟩ := j.out ch
    refine Or.inl ⟨V, f, rfl, af, ?_⟩
    have q := (glue0 (X := (fun _ => True)) j hn1 hn2 ok2 hX mo hc ch af)
    exact ⟨q.1, q.2.imp (fun o3 h3 q3 => by obtain ⟨b, e, q1, q2, -, q4⟩ := q3; exact ⟨b, e, q1, q2, q4⟩)⟩
  · refine Or.inr ⟨rfl, ?_⟩
    have q := (glue1 (X := (fun _ => True)) j hn1 hn2 (Or.inl rfl) ok2 hX mo hc ch)
    exact ⟨q.1, q.2.imp (fun o3 h3 q3 => by obtain ⟨b, e, q1, q2, -, q4⟩ := q3; exact ⟨b, e, q1, q2, q4⟩)⟩
  · exact absurd rfl hE2

set_option maxHeartbeats 4000000 in
set_option maxRecDepth 100000 in
theorem kc_areAllied (hd : dc + 1 ≤ d2) (O : ∀ (h : AH) (s : ST) (bk dr : Nat) (a0 a1 : Int32), Jd h s bk dr → OpC G mX10_areAllied mX12_areAllied dc d2 [some (.ref 0), some (.int a0), some (.int a1)] [some (.ref 216), some (.int a0), some (.int a1)] "java/lang/IndexOutOfBoundsException" "" (fun b => b = nI 0 ∨ b = nI 1) h s) : Kc_areAllied G d2 0 216 269 J n := by
  intro h a0 a1 hj
  obtain ⟨s, bk, dr, j, hn1, hn2⟩ := hj
  obtain ⟨t, V, s2, bk2, dr2, ok2, hX, k, mo⟩ := O h s bk dr a0 a1 j
  refine w_areAllied (x := 0) (out := 269) hd j.poll k (fun o h1 p => ?_)
  obtain ⟨p1, hc, ch0⟩ := p
  have ch : Ch h h1 0 216 1 6 := ch0.sub (Nat.le_refl _) (Nat.le_refl _) (by omega) (by omega)
  clear ch0
  rcases p1 with ⟨rfl, rfl⟩ | ⟨rfl, rfl⟩ | ⟨rfl, hE2, rfl⟩
  · obtain ⟨f, af⟩ := j.out ch
    refine Or.inl ⟨V, f, rfl, hX, af, ?_⟩
    exact (glue0 (X := (fun b => b = nI 0 ∨ b = nI 1)) j hn1 hn2 ok2 hX mo hc ch af)
  · refine Or.inr ⟨rfl, ?_⟩
    exact (glue1 (X := (fun b => b = nI 0 ∨ b = nI 1)) j hn1 hn2 (Or.inl rfl) ok2 hX mo hc ch)
  · exact absurd rfl hE2

set_option maxHeartbeats 4000000 in
set_option maxRecDepth 100000 in
theorem kc_firstIn (hd : dc + 1 ≤ d2) (O : ∀ (h : AH) (s : ST) (bk dr : Nat) (a0 : Int32), Jd h s bk dr → OpC G mX10_firstIn mX12_firstIn dc d2 [some (.ref 0), some (.int a0)] [some (.ref 216), some (.int a0)] "java/lang/IndexOutOfBoundsException" "" (fun _ => True) h s) : Kc_firstIn G d2 0 216 269 J n := by
  intro h a0 hj
  obtain ⟨s, bk, dr, j, hn1, hn2⟩ := hj
  obtain ⟨t, V, s2, bk2, dr2, ok2, hX, k, mo⟩ := O h s bk dr a0 j
  refine w_firstIn (x := 0) (out := 269) hd j.poll k (fun o h1 p => ?_)
  obtain ⟨p1, hc, ch0⟩ := p
  have ch : Ch h h1 0 216 1 6 := ch0.sub (Nat.le_refl _) (Nat.le_refl _) (by omega) (by omega)
  clear ch0
  rcases p1 with ⟨rfl, rfl⟩ | ⟨rfl, rfl⟩ | ⟨rfl, hE2, rfl⟩
  · obtain ⟨f, af⟩ := j.out ch
    refine Or.inl ⟨V, f, rfl, af, ?_⟩
    have q := (glue0 (X := (fun _ => True)) j hn1 hn2 ok2 hX mo hc ch af)
    exact ⟨q.1, q.2.imp (fun o3 h3 q3 => by obtain ⟨b, e, q1, q2, -, q4⟩ := q3; exact ⟨b, e, q1, q2, q4⟩)⟩
  · refine Or.inr ⟨rfl, ?_⟩
    have q := (glue1 (X := (fun _ => True)) j hn1 hn2 (Or.inl rfl) ok2 hX mo hc ch)
    exact ⟨q.1, q.2.imp (fun o3 h3 q3 => by obtain ⟨b, e, q1, q2, -, q4⟩ := q3; exact ⟨b, e, q1, q2, q4⟩)⟩
  · exact absurd rfl hE2

set_option maxHeartbeats 4000000 in
set_option maxRecDepth 100000 in
theorem kc_marginIn (hd : dc + 1 ≤ d2) (O : ∀ (h : AH) (s : ST) (bk dr : Nat) (a0 : Int32), Jd h s bk dr → OpC G mX10_marginIn mX12_marginIn dc d2 [some (.ref 0), some (.int a0)] [some (.ref 216), some (.int a0)] "java/lang/IndexOutOfBoundsException" "" (fun _ => True) h s) : Kc_marginIn G d2 0 216 269 J n := by
  intro h a0 hj
  obtain ⟨s, bk, dr, j, hn1, hn2⟩ := hj
  obtain ⟨t, V, s2, bk2, dr2, ok2, hX, k, mo⟩ := O h s bk dr a0 j
  refine w_marginIn (x := 0) (out := 269) hd j.poll k (fun o h1 p => ?_)
  obtain ⟨p1, hc, ch0⟩ := p
  have ch : Ch h h1 0 216 1 6 := ch0.sub (Nat.le_refl _) (Nat.le_refl _) (by omega) (by omega)
  clear ch0
  rcases p1 with ⟨rfl, rfl⟩ | ⟨rfl, rfl⟩ | ⟨rfl, hE2, rfl⟩
  · obtain ⟨f, af⟩ := j.out ch
    refine Or.inl ⟨V, f, rfl, af, ?_⟩
    have q := (glue0 (X := (fun _ => True)) j hn1 hn2 ok2 hX mo hc ch af)
    exact ⟨q.1, q.2.imp (fun o3 h3 q3 => by obtain ⟨b, e, q1, q2, -, q4⟩ := q3; exact ⟨b, e, q1, q2, q4⟩)⟩
  · refine Or.inr ⟨rfl, ?_⟩
    have q := (glue1 (X := (fun _ => True)) j hn1 hn2 (Or.inl rfl) ok2 hX mo hc ch)
    exact ⟨q.1, q.2.imp (fun o3 h3 q3 => by obtain ⟨b, e, q1, q2, -, q4⟩ := q3; exact ⟨b, e, q1, q2, q4⟩)⟩
  · exact absurd rfl hE2

set_option maxHeartbeats 4000000 in
set_option maxRecDepth 100000 in
theorem kc_allianceBeans (hd : dc + 1 ≤ d2) (O : ∀ (h : AH) (s : ST) (bk dr : Nat) (a0 a1 : Int32), Jd h s bk dr → OpC G mX10_allianceBeans mX12_allianceBeans dc d2 [some (.ref 0), some (.int a0), some (.int a1)] [some (.ref 216), some (.int a0), some (.int a1)] "java/lang/IndexOutOfBoundsException" "" (fun _ => True) h s) : Kc_allianceBeans G d2 0 216 269 J n := by
  intro h a0 a1 hj
  obtain ⟨s, bk, dr, j, hn1, hn2⟩ := hj
  obtain ⟨t, V, s2, bk2, dr2, ok2, hX, k, mo⟩ := O h s bk dr a0 a1 j
  refine w_allianceBeans (x := 0) (out := 269) hd j.poll k (fun o h1 p => ?_)
  obtain ⟨p1, hc, ch0⟩ := p
  have ch : Ch h h1 0 216 1 6 := ch0.sub (Nat.le_refl _) (Nat.le_refl _) (by omega) (by omega)
  clear ch0
  rcases p1 with ⟨rfl, rfl⟩ | ⟨rfl, rfl⟩ | ⟨rfl, hE2, rfl⟩
  · obtain ⟨f, af⟩ := j.out ch
    refine Or.inl ⟨V, f, rfl, af, ?_⟩
    have q := (glue0 (X := (fun _ => True)) j hn1 hn2 ok2 hX mo hc ch af)
    exact ⟨q.1, q.2.imp (fun o3 h3 q3 => by obtain ⟨b, e, q1, q2, -, q4⟩ := q3; exact ⟨b, e, q1, q2, q4⟩)⟩
  · refine Or.inr ⟨rfl, ?_⟩
    have q := (glue1 (X := (fun _ => True)) j hn1 hn2 (Or.inl rfl) ok2 hX mo hc ch)
    exact ⟨q.1, q.2.imp (fun o3 h3 q3 => by obtain ⟨b, e, q1, q2, -, q4⟩ := q3; exact ⟨b, e, q1, q2, q4⟩)⟩
  · exact absurd rfl hE2

set_option maxHeartbeats 4000000 in
set_option maxRecDepth 100000 in
theorem kc_seatsWon (hd : dc + 1 ≤ d2) (O : ∀ (h : AH) (s : ST) (bk dr : Nat) (a0 a1 : Int32), Jd h s bk dr → OpC G mX10_seatsWon mX12_seatsWon dc d2 [some (.ref 0), some (.int a0), some (.int a1)] [some (.ref 216), some (.int a0), some (.int a1)] "java/lang/IndexOutOfBoundsException" "" (fun _ => True) h s) : Kc_seatsWon G d2 0 216 269 J n := by
  intro h a0 a1 hj
  obtain ⟨s, bk, dr, j, hn1, hn2⟩ := hj
  obtain ⟨t, V, s2, bk2, dr2, ok2, hX, k, mo⟩ := O h s bk dr a0 a1 j
  refine w_seatsWon (x := 0) (out := 269) hd j.poll k (fun o h1 p => ?_)
  obtain ⟨p1, hc, ch0⟩ := p
  have ch : Ch h h1 0 216 1 6 := ch0.sub (Nat.le_refl _) (Nat.le_refl _) (by omega) (by omega)
  clear ch0
  rcases p1 with ⟨rfl, rfl⟩ | ⟨rfl, rfl⟩ | ⟨rfl, hE2, rfl⟩
  · obtain ⟨f, af⟩ := j.out ch
    refine Or.inl ⟨V, f, rfl, af, ?_⟩
    have q := (glue0 (X := (fun _ => True)) j hn1 hn2 ok2 hX mo hc ch af)
    exact ⟨q.1, q.2.imp (fun o3 h3 q3 => by obtain ⟨b, e, q1, q2, -, q4⟩ := q3; exact ⟨b, e, q1, q2, q4⟩)⟩
  · refine Or.inr ⟨rfl, ?_⟩
    have q := (glue1 (X := (fun _ => True)) j hn1 hn2 (Or.inl rfl) ok2 hX mo hc ch)
    exact ⟨q.1, q.2.imp (fun o3 h3 q3 => by obtain ⟨b, e, q1, q2, -, q4⟩ := q3; exact ⟨b, e, q1, q2, q4⟩)⟩
  · exact absurd rfl hE2

set_option maxHeartbeats 4000000 in
set_option maxRecDepth 100000 in
theorem kc_emptySeats (hd : dc + 1 ≤ d2) (O : ∀ (h : AH) (s : ST) (bk dr : Nat) (a0 : Int32), Jd h s bk dr → OpC G mX10_emptySeats mX12_emptySeats dc d2 [some (.ref 0), some (.int a0)] [some (.ref 216), some (.int a0)] "java/lang/IndexOutOfBoundsException" "" (fun _ => True) h s) : Kc_emptySeats G d2 0 216 269 J n := by
  intro h a0 hj
  obtain ⟨s, bk, dr, j, hn1, hn2⟩ := hj
  obtain ⟨t, V, s2, bk2, dr2, ok2, hX, k, mo⟩ := O h s bk dr a0 j
  refine w_emptySeats (x := 0) (out := 269) hd j.poll k (fun o h1 p => ?_)
  obtain ⟨p1, hc, ch0⟩ := p
  have ch : Ch h h1 0 216 1 6 := ch0.sub (Nat.le_refl _) (Nat.le_refl _) (by omega) (by omega)
  clear ch0
  rcases p1 with ⟨rfl, rfl⟩ | ⟨rfl, rfl⟩ | ⟨rfl, hE2, rfl⟩
  · obtain ⟨f, af⟩ := j.out ch
    refine Or.inl ⟨V, f, rfl, af, ?_⟩
    have q := (glue0 (X := (fun _ => True)) j hn1 hn2 ok2 hX mo hc ch af)
    exact ⟨q.1, q.2.imp (fun o3 h3 q3 => by obtain ⟨b, e, q1, q2, -, q4⟩ := q3; exact ⟨b, e, q1, q2, q4⟩)⟩
  · refine Or.inr ⟨rfl, ?_⟩
    have q := (glue1 (X := (fun _ => True)) j hn1 hn2 (Or.inl rfl) ok2 hX mo hc ch)
    exact ⟨q.1, q.2.imp (fun o3 h3 q3 => by obtain ⟨b, e, q1, q2, -, q4⟩ := q3; exact ⟨b, e, q1, q2, q4⟩)⟩
  · exact absurd rfl hE2

set_option maxHeartbeats 4000000 in
set_option maxRecDepth 100000 in
theorem kc_seatsInAll (hd : dc + 1 ≤ d2) (O : ∀ (h : AH) (s : ST) (bk dr : Nat) (a0 : Int32), Jd h s bk dr → OpC G mX10_seatsInAll mX12_seatsInAll dc d2 [some (.ref 0), some (.int a0)] [some (.ref 216), some (.int a0)] "java/lang/IndexOutOfBoundsException" "" (fun _ => True) h s) : Kc_seatsInAll G d2 0 216 269 J n := by
  intro h a0 hj
  obtain ⟨s, bk, dr, j, hn1, hn2⟩ := hj
  obtain ⟨t, V, s2, bk2, dr2, ok2, hX, k, mo⟩ := O h s bk dr a0 j
  refine w_seatsInAll (x := 0) (out := 269) hd j.poll k (fun o h1 p => ?_)
  obtain ⟨p1, hc, ch0⟩ := p
  have ch : Ch h h1 0 216 1 6 := ch0.sub (Nat.le_refl _) (Nat.le_refl _) (by omega) (by omega)
  clear ch0
  rcases p1 with ⟨rfl, rfl⟩ | ⟨rfl, rfl⟩ | ⟨rfl, hE2, rfl⟩
  · obtain ⟨f, af⟩ := j.out ch
    refine Or.inl ⟨V, f, rfl, af, ?_⟩
    have q := (glue0 (X := (fun _ => True)) j hn1 hn2 ok2 hX mo hc ch af)
    exact ⟨q.1, q.2.imp (fun o3 h3 q3 => by obtain ⟨b, e, q1, q2, -, q4⟩ := q3; exact ⟨b, e, q1, q2, q4⟩)⟩
  · refine Or.inr ⟨rfl, ?_⟩
    have q := (glue1 (X := (fun _ => True)) j hn1 hn2 (Or.inl rfl) ok2 hX mo hc ch)
    exact ⟨q.1, q.2.imp (fun o3 h3 q3 => by obtain ⟨b, e, q1, q2, -, q4⟩ := q3; exact ⟨b, e, q1, q2, q4⟩)⟩
  · exact absurd rfl hE2

set_option maxHeartbeats 4000000 in
set_option maxRecDepth 100000 in
theorem kc_hasMajority (hd : dc + 1 ≤ d2) (O : ∀ (h : AH) (s : ST) (bk dr : Nat) (a0 : Int32), Jd h s bk dr → OpC G mX10_hasMajority mX12_hasMajority dc d2 [some (.ref 0), some (.int a0)] [some (.ref 216), some (.int a0)] "java/lang/IndexOutOfBoundsException" "" (fun b => b = nI 0 ∨ b = nI 1) h s) : Kc_hasMajority G d2 0 216 269 J n := by
  intro h a0 hj
  obtain ⟨s, bk, dr, j, hn1, hn2⟩ := hj
  obtain ⟨t, V, s2, bk2, dr2, ok2, hX, k, mo⟩ := O h s bk dr a0 j
  refine w_hasMajority (x := 0) (out := 269) hd j.poll k (fun o h1 p => ?_)
  obtain ⟨p1, hc, ch0⟩ := p
  have ch : Ch h h1 0 216 1 6 := ch0.sub (Nat.le_refl _) (Nat.le_refl _) (by omega) (by omega)
  clear ch0
  rcases p1 with ⟨rfl, rfl⟩ | ⟨rfl, rfl⟩ | ⟨rfl, hE2, rfl⟩
  · obtain ⟨f, af⟩ := j.out ch
    refine Or.inl ⟨V, f, rfl, hX, af, ?_⟩
    exact (glue0 (X := (fun b => b = nI 0 ∨ b = nI 1)) j hn1 hn2 ok2 hX mo hc ch af)
  · refine Or.inr ⟨rfl, ?_⟩
    exact (glue1 (X := (fun b => b = nI 0 ∨ b = nI 1)) j hn1 hn2 (Or.inl rfl) ok2 hX mo hc ch)
  · exact absurd rfl hE2

set_option maxHeartbeats 4000000 in
set_option maxRecDepth 100000 in
theorem kc_jarOfLid (hd : dc + 1 ≤ d2) (O : ∀ (h : AH) (s : ST) (bk dr : Nat) (a0 : Int32), Jd h s bk dr → OpC G mX10_jarOfLid mX12_jarOfLid dc d2 [some (.ref 0), some (.int a0)] [some (.ref 216), some (.int a0)] "java/lang/IndexOutOfBoundsException" "" (fun _ => True) h s) : Kc_jarOfLid G d2 0 216 269 J n := by
  intro h a0 hj
  obtain ⟨s, bk, dr, j, hn1, hn2⟩ := hj
  obtain ⟨t, V, s2, bk2, dr2, ok2, hX, k, mo⟩ := O h s bk dr a0 j
  refine w_jarOfLid (x := 0) (out := 269) hd j.poll k (fun o h1 p => ?_)
  obtain ⟨p1, hc, ch0⟩ := p
  have ch : Ch h h1 0 216 1 6 := ch0.sub (Nat.le_refl _) (Nat.le_refl _) (by omega) (by omega)
  clear ch0
  rcases p1 with ⟨rfl, rfl⟩ | ⟨rfl, rfl⟩ | ⟨rfl, hE2, rfl⟩
  · obtain ⟨f, af⟩ := j.out ch
    refine Or.inl ⟨V, f, rfl, af, ?_⟩
    have q := (glue0 (X := (fun _ => True)) j hn1 hn2 ok2 hX mo hc ch af)
    exact ⟨q.1, q.2.imp (fun o3 h3 q3 => by obtain ⟨b, e, q1, q2, -, q4⟩ := q3; exact ⟨b, e, q1, q2, q4⟩)⟩
  · refine Or.inr ⟨rfl, ?_⟩
    have q := (glue1 (X := (fun _ => True)) j hn1 hn2 (Or.inl rfl) ok2 hX mo hc ch)
    exact ⟨q.1, q.2.imp (fun o3 h3 q3 => by obtain ⟨b, e, q1, q2, -, q4⟩ := q3; exact ⟨b, e, q1, q2, q4⟩)⟩
  · exact absurd rfl hE2

set_option maxHeartbeats 4000000 in
set_option maxRecDepth 100000 in
theorem kc_labelOfLid (hd : dc + 1 ≤ d2) (O : ∀ (h : AH) (s : ST) (bk dr : Nat) (a0 : Int32), Jd h s bk dr → OpC G mX10_labelOfLid mX12_labelOfLid dc d2 [some (.ref 0), some (.int a0)] [some (.ref 216), some (.int a0)] "java/lang/IndexOutOfBoundsException" "" (fun _ => True) h s) : Kc_labelOfLid G d2 0 216 269 J n := by
  intro h a0 hj
  obtain ⟨s, bk, dr, j, hn1, hn2⟩ := hj
  obtain ⟨t, V, s2, bk2, dr2, ok2, hX, k, mo⟩ := O h s bk dr a0 j
  refine w_labelOfLid (x := 0) (out := 269) hd j.poll k (fun o h1 p => ?_)
  obtain ⟨p1, hc, ch0⟩ := p
  have ch : Ch h h1 0 216 1 6 := ch0.sub (Nat.le_refl _) (Nat.le_refl _) (by omega) (by omega)
  clear ch0
  rcases p1 with ⟨rfl, rfl⟩ | ⟨rfl, rfl⟩ | ⟨rfl, hE2, rfl⟩
  · obtain ⟨f, af⟩ := j.out ch
    refine Or.inl ⟨V, f, rfl, af, ?_⟩
    have q := (glue0 (X := (fun _ => True)) j hn1 hn2 ok2 hX mo hc ch af)
    exact ⟨q.1, q.2.imp (fun o3 h3 q3 => by obtain ⟨b, e, q1, q2, -, q4⟩ := q3; exact ⟨b, e, q1, q2, q4⟩)⟩
  · refine Or.inr ⟨rfl, ?_⟩
    have q := (glue1 (X := (fun _ => True)) j hn1 hn2 (Or.inl rfl) ok2 hX mo hc ch)
    exact ⟨q.1, q.2.imp (fun o3 h3 q3 => by obtain ⟨b, e, q1, q2, -, q4⟩ := q3; exact ⟨b, e, q1, q2, q4⟩)⟩
  · exact absurd rfl hE2

set_option maxHeartbeats 4000000 in
set_option maxRecDepth 100000 in
theorem kc_ruleOfLid (hd : dc + 1 ≤ d2) (O : ∀ (h : AH) (s : ST) (bk dr : Nat) (a0 : Int32), Jd h s bk dr → OpC G mX10_ruleOfLid mX12_ruleOfLid dc d2 [some (.ref 0), some (.int a0), none] [some (.ref 216), some (.int a0)] "java/lang/IndexOutOfBoundsException" "" (fun _ => True) h s) : Kc_ruleOfLid G d2 0 216 269 J n := by
  intro h a0 hj
  obtain ⟨s, bk, dr, j, hn1, hn2⟩ := hj
  obtain ⟨t, V, s2, bk2, dr2, ok2, hX, k, mo⟩ := O h s bk dr a0 j
  refine w_ruleOfLid (x := 0) (out := 269) hd j.poll k (fun o h1 p => ?_)
  obtain ⟨p1, hc, ch0⟩ := p
  have ch : Ch h h1 0 216 1 6 := ch0.sub (Nat.le_refl _) (Nat.le_refl _) (by omega) (by omega)
  clear ch0
  rcases p1 with ⟨rfl, rfl⟩ | ⟨rfl, rfl⟩ | ⟨rfl, hE2, rfl⟩
  · obtain ⟨f, af⟩ := j.out ch
    refine Or.inl ⟨V, f, rfl, af, ?_⟩
    have q := (glue0 (X := (fun _ => True)) j hn1 hn2 ok2 hX mo hc ch af)
    exact ⟨q.1, q.2.imp (fun o3 h3 q3 => by obtain ⟨b, e, q1, q2, -, q4⟩ := q3; exact ⟨b, e, q1, q2, q4⟩)⟩
  · refine Or.inr ⟨rfl, ?_⟩
    have q := (glue1 (X := (fun _ => True)) j hn1 hn2 (Or.inl rfl) ok2 hX mo hc ch)
    exact ⟨q.1, q.2.imp (fun o3 h3 q3 => by obtain ⟨b, e, q1, q2, -, q4⟩ := q3; exact ⟨b, e, q1, q2, q4⟩)⟩
  · exact absurd rfl hE2

set_option maxHeartbeats 4000000 in
set_option maxRecDepth 100000 in
theorem kc_pour (hd : dc + 1 ≤ d2) (O : ∀ (h : AH) (s : ST) (bk dr : Nat) (a0 a1 a2 a3 : Int32), Jd h s bk dr → OpC G mX10_pour mX12_pour dc d2 [some (.ref 0), some (.int a0), some (.int a1), some (.int a2), some (.int a3)] [some (.ref 216), some (.int a0), some (.int a1), some (.int a2), some (.int a3)] "java/lang/IndexOutOfBoundsException" "java/lang/IllegalArgumentException" (fun _ => True) h s) : Kc_pour G d2 0 216 269 J n := by
  intro h a0 a1 a2 a3 hj
  obtain ⟨s, bk, dr, j, hn1, hn2⟩ := hj
  obtain ⟨t, V, s2, bk2, dr2, ok2, hX, k, mo⟩ := O h s bk dr a0 a1 a2 a3 j
  refine w_pour (x := 0) (out := 269) hd j.poll k (fun o h1 p => ?_)
  obtain ⟨p1, hc, ch0⟩ := p
  have ch : Ch h h1 0 216 1 6 := ch0.sub (Nat.le_refl _) (Nat.le_refl _) (by omega) (by omega)
  clear ch0
  rcases p1 with ⟨rfl, rfl⟩ | ⟨rfl, rfl⟩ | ⟨rfl, hE2, rfl⟩
  · obtain ⟨f, af⟩ := j.out ch
    refine Or.inl ⟨V, f, rfl, af, ?_⟩
    have q := (glue0 (X := (fun _ => True)) j hn1 hn2 ok2 hX mo hc ch af)
    exact ⟨q.1, q.2.imp (fun o3 h3 q3 => by obtain ⟨b, e, q1, q2, -, q4⟩ := q3; exact ⟨b, e, q1, q2, q4⟩)⟩
  · refine Or.inr (Or.inl ⟨rfl, ?_⟩)
    have q := (glue1 (X := (fun _ => True)) j hn1 hn2 (Or.inl rfl) ok2 hX mo hc ch)
    exact ⟨q.1, q.2.imp (fun o3 h3 q3 => by obtain ⟨b, e, q1, q2, -, q4⟩ := q3; exact ⟨b, e, q1, q2, q4⟩)⟩
  · refine Or.inr (Or.inr ⟨rfl, ?_⟩)
    have q := (glue1 (X := (fun _ => True)) j hn1 hn2 (Or.inr rfl) ok2 hX mo hc ch)
    exact ⟨q.1, q.2.imp (fun o3 h3 q3 => by obtain ⟨b, e, q1, q2, -, q4⟩ := q3; exact ⟨b, e, q1, q2, q4⟩)⟩

set_option maxHeartbeats 4000000 in
set_option maxRecDepth 100000 in
theorem kc_shake (hd : dc + 1 ≤ d2) (O : ∀ (h : AH) (s : ST) (bk dr : Nat) (a0 : Int32), Jd h s bk dr → OpC G mX10_shake mX12_shake dc d2 [some (.ref 0), some (.int a0)] [some (.ref 216), some (.int a0)] "java/lang/IndexOutOfBoundsException" "" (fun _ => True) h s) : Kc_shake G d2 0 216 269 J n := by
  intro h a0 hj
  obtain ⟨s, bk, dr, j, hn1, hn2⟩ := hj
  obtain ⟨t, V, s2, bk2, dr2, ok2, hX, k, mo⟩ := O h s bk dr a0 j
  refine w_shake (x := 0) (out := 269) hd j.poll k (fun o h1 p => ?_)
  obtain ⟨p1, hc, ch0⟩ := p
  have ch : Ch h h1 0 216 1 6 := ch0.sub (Nat.le_refl _) (Nat.le_refl _) (by omega) (by omega)
  clear ch0
  rcases p1 with ⟨rfl, rfl⟩ | ⟨rfl, rfl⟩ | ⟨rfl, hE2, rfl⟩
  · obtain ⟨f, af⟩ := j.out ch
    refine Or.inl ⟨V, f, rfl, af, ?_⟩
    have q := (glue0 (X := (fun _ => True)) j hn1 hn2 ok2 hX mo hc ch af)
    exact ⟨q.1, q.2.imp (fun o3 h3 q3 => by obtain ⟨b, e, q1, q2, -, q4⟩ := q3; exact ⟨b, e, q1, q2, q4⟩)⟩
  · refine Or.inr ⟨rfl, ?_⟩
    have q := (glue1 (X := (fun _ => True)) j hn1 hn2 (Or.inl rfl) ok2 hX mo hc ch)
    exact ⟨q.1, q.2.imp (fun o3 h3 q3 => by obtain ⟨b, e, q1, q2, -, q4⟩ := q3; exact ⟨b, e, q1, q2, q4⟩)⟩
  · exact absurd rfl hE2

set_option maxHeartbeats 4000000 in
set_option maxRecDepth 100000 in
theorem kc_putLid (hd : dc + 1 ≤ d2) (O : ∀ (h : AH) (s : ST) (bk dr : Nat) (a0 a1 : Int32), Jd h s bk dr → OpC G mX10_putLid mX12_putLid dc d2 [some (.ref 0), some (.int a0), some (.int a1), none] [some (.ref 216), some (.int a0), some (.int a1), none] "java/lang/IndexOutOfBoundsException" "" (fun _ => True) h s) : Kc_putLid G d2 0 216 269 J n := by
  intro h a0 a1 hj
  obtain ⟨s, bk, dr, j, hn1, hn2⟩ := hj
  obtain ⟨t, V, s2, bk2, dr2, ok2, hX, k, mo⟩ := O h s bk dr a0 a1 j
  refine w_putLid (x := 0) (out := 269) hd j.poll k (fun o h1 p => ?_)
  obtain ⟨p1, hc, ch0⟩ := p
  have ch : Ch h h1 0 216 1 6 := ch0.sub (Nat.le_refl _) (Nat.le_refl _) (by omega) (by omega)
  clear ch0
  rcases p1 with ⟨rfl, rfl⟩ | ⟨rfl, rfl⟩ | ⟨rfl, hE2, rfl⟩
  · obtain ⟨f, af⟩ := j.out ch
    refine Or.inl ⟨V, f, rfl, af, ?_⟩
    have q := (glue0 (X := (fun _ => True)) j hn1 hn2 ok2 hX mo hc ch af)
    exact ⟨q.1, q.2.imp (fun o3 h3 q3 => by obtain ⟨b, e, q1, q2, -, q4⟩ := q3; exact ⟨b, e, q1, q2, q4⟩)⟩
  · refine Or.inr ⟨rfl, ?_⟩
    have q := (glue1 (X := (fun _ => True)) j hn1 hn2 (Or.inl rfl) ok2 hX mo hc ch)
    exact ⟨q.1, q.2.imp (fun o3 h3 q3 => by obtain ⟨b, e, q1, q2, -, q4⟩ := q3; exact ⟨b, e, q1, q2, q4⟩)⟩
  · exact absurd rfl hE2

set_option maxHeartbeats 4000000 in
set_option maxRecDepth 100000 in
theorem kc_join (hd : dc + 1 ≤ d2) (O : ∀ (h : AH) (s : ST) (bk dr : Nat) (a0 a1 : Int32), Jd h s bk dr → OpC G mX10_join mX12_join dc d2 [some (.ref 0), some (.int a0), some (.int a1)] [some (.ref 216), some (.int a0), some (.int a1)] "java/lang/IndexOutOfBoundsException" "java/lang/IllegalStateException" (fun _ => True) h s) : Kc_join G d2 0 216 269 J n := by
  intro h a0 a1 hj
  obtain ⟨s, bk, dr, j, hn1, hn2⟩ := hj
  obtain ⟨t, V, s2, bk2, dr2, ok2, hX, k, mo⟩ := O h s bk dr a0 a1 j
  refine w_join (x := 0) (out := 269) hd j.poll k (fun o h1 p => ?_)
  obtain ⟨p1, hc, ch0⟩ := p
  have ch : Ch h h1 0 216 1 6 := ch0.sub (Nat.le_refl _) (Nat.le_refl _) (by omega) (by omega)
  clear ch0
  rcases p1 with ⟨rfl, rfl⟩ | ⟨rfl, rfl⟩ | ⟨rfl, hE2, rfl⟩
  · obtain ⟨f, af⟩ := j.out ch
    refine Or.inl ⟨V, f, rfl, af, ?_⟩
    have q := (glue0 (X := (fun _ => True)) j hn1 hn2 ok2 hX mo hc ch af)
    exact ⟨q.1, q.2.imp (fun o3 h3 q3 => by obtain ⟨b, e, q1, q2, -, q4⟩ := q3; exact ⟨b, e, q1, q2, q4⟩)⟩
  · refine Or.inr (Or.inl ⟨rfl, ?_⟩)
    have q := (glue1 (X := (fun _ => True)) j hn1 hn2 (Or.inl rfl) ok2 hX mo hc ch)
    exact ⟨q.1, q.2.imp (fun o3 h3 q3 => by obtain ⟨b, e, q1, q2, -, q4⟩ := q3; exact ⟨b, e, q1, q2, q4⟩)⟩
  · refine Or.inr (Or.inr ⟨rfl, ?_⟩)
    have q := (glue1 (X := (fun _ => True)) j hn1 hn2 (Or.inr rfl) ok2 hX mo hc ch)
    exact ⟨q.1, q.2.imp (fun o3 h3 q3 => by obtain ⟨b, e, q1, q2, -, q4⟩ := q3; exact ⟨b, e, q1, q2, q4⟩)⟩

set_option maxHeartbeats 4000000 in
set_option maxRecDepth 100000 in
theorem kc_leave (hd : dc + 1 ≤ d2) (O : ∀ (h : AH) (s : ST) (bk dr : Nat) (a0 : Int32), Jd h s bk dr → OpC G mX10_leave mX12_leave dc d2 [some (.ref 0), some (.int a0), none] [some (.ref 216), some (.int a0), none] "java/lang/IndexOutOfBoundsException" "java/lang/IllegalStateException" (fun _ => True) h s) : Kc_leave G d2 0 216 269 J n := by
  intro h a0 hj
  obtain ⟨s, bk, dr, j, hn1, hn2⟩ := hj
  obtain ⟨t, V, s2, bk2, dr2, ok2, hX, k, mo⟩ := O h s bk dr a0 j
  refine w_leave (x := 0) (out := 269) hd j.poll k (fun o h1 p => ?_)
  obtain ⟨p1, hc, ch0⟩ := p
  have ch : Ch h h1 0 216 1 6 := ch0.sub (Nat.le_refl _) (Nat.le_refl _) (by omega) (by omega)
  clear ch0
  rcases p1 with ⟨rfl, rfl⟩ | ⟨rfl, rfl⟩ | ⟨rfl, hE2, rfl⟩
  · obtain ⟨f, af⟩ := j.out ch
    refine Or.inl ⟨V, f, rfl, af, ?_⟩
    have q := (glue0 (X := (fun _ => True)) j hn1 hn2 ok2 hX mo hc ch af)
    exact ⟨q.1, q.2.imp (fun o3 h3 q3 => by obtain ⟨b, e, q1, q2, -, q4⟩ := q3; exact ⟨b, e, q1, q2, q4⟩)⟩
  · refine Or.inr (Or.inl ⟨rfl, ?_⟩)
    have q := (glue1 (X := (fun _ => True)) j hn1 hn2 (Or.inl rfl) ok2 hX mo hc ch)
    exact ⟨q.1, q.2.imp (fun o3 h3 q3 => by obtain ⟨b, e, q1, q2, -, q4⟩ := q3; exact ⟨b, e, q1, q2, q4⟩)⟩
  · refine Or.inr (Or.inr ⟨rfl, ?_⟩)
    have q := (glue1 (X := (fun _ => True)) j hn1 hn2 (Or.inr rfl) ok2 hX mo hc ch)
    exact ⟨q.1, q.2.imp (fun o3 h3 q3 => by obtain ⟨b, e, q1, q2, -, q4⟩ := q3; exact ⟨b, e, q1, q2, q4⟩)⟩

set_option maxHeartbeats 4000000 in
set_option maxRecDepth 100000 in
theorem kc_pass (hd : dc + 1 ≤ d2) (O : ∀ (h : AH) (s : ST) (bk dr : Nat) (a0 : Int32), Jd h s bk dr → OpC G mX10_pass mX12_pass dc d2 [some (.ref 0), some (.int a0), none, none] [some (.ref 216), some (.int a0), none, none] "java/lang/IllegalArgumentException" "" (fun _ => True) h s) : Kc_pass G d2 0 216 269 J n := by
  intro h a0 hj
  obtain ⟨s, bk, dr, j, hn1, hn2⟩ := hj
  obtain ⟨t, V, s2, bk2, dr2, ok2, hX, k, mo⟩ := O h s bk dr a0 j
  refine w_pass (x := 0) (out := 269) hd j.poll k (fun o h1 p => ?_)
  obtain ⟨p1, hc, ch0⟩ := p
  have ch : Ch h h1 0 216 1 6 := ch0.sub (Nat.le_refl _) (Nat.le_refl _) (by omega) (by omega)
  clear ch0
  rcases p1 with ⟨rfl, rfl⟩ | ⟨rfl, rfl⟩ | ⟨rfl, hE2, rfl⟩
  · obtain ⟨f, af⟩ := j.out ch
    refine Or.inl ⟨V, f, rfl, af, ?_⟩
    have q := (glue0 (X := (fun _ => True)) j hn1 hn2 ok2 hX mo hc ch af)
    exact ⟨q.1, q.2.imp (fun o3 h3 q3 => by obtain ⟨b, e, q1, q2, -, q4⟩ := q3; exact ⟨b, e, q1, q2, q4⟩)⟩
  · refine Or.inr ⟨rfl, ?_⟩
    have q := (glue1 (X := (fun _ => True)) j hn1 hn2 (Or.inl rfl) ok2 hX mo hc ch)
    exact ⟨q.1, q.2.imp (fun o3 h3 q3 => by obtain ⟨b, e, q1, q2, -, q4⟩ := q3; exact ⟨b, e, q1, q2, q4⟩)⟩
  · exact absurd rfl hE2

set_option maxHeartbeats 4000000 in
set_option maxRecDepth 100000 in
theorem kc_seatsAfter (hd : dc + 1 ≤ d2) (O : ∀ (h : AH) (s : ST) (bk dr : Nat) (a0 a1 : Int32), Jd h s bk dr → OpC G mX10_seatsAfter mX12_seatsAfter dc d2 [some (.ref 0), some (.int a0), some (.int a1), none] [some (.ref 216), some (.int a0), some (.int a1), none] "java/lang/IndexOutOfBoundsException" "java/lang/IllegalArgumentException" (fun _ => True) h s) : Kc_seatsAfter G d2 0 216 269 J n := by
  intro h a0 a1 hj
  obtain ⟨s, bk, dr, j, hn1, hn2⟩ := hj
  obtain ⟨t, V, s2, bk2, dr2, ok2, hX, k, mo⟩ := O h s bk dr a0 a1 j
  refine w_seatsAfter (x := 0) (out := 269) hd j.poll k (fun o h1 p => ?_)
  obtain ⟨p1, hc, ch0⟩ := p
  have ch : Ch h h1 0 216 1 6 := ch0.sub (Nat.le_refl _) (Nat.le_refl _) (by omega) (by omega)
  clear ch0
  rcases p1 with ⟨rfl, rfl⟩ | ⟨rfl, rfl⟩ | ⟨rfl, hE2, rfl⟩
  · obtain ⟨f, af⟩ := j.out ch
    refine Or.inl ⟨V, f, rfl, af, ?_⟩
    have q := (glue0 (X := (fun _ => True)) j hn1 hn2 ok2 hX mo hc ch af)
    exact ⟨q.1, q.2.imp (fun o3 h3 q3 => by obtain ⟨b, e, q1, q2, -, q4⟩ := q3; exact ⟨b, e, q1, q2, q4⟩)⟩
  · refine Or.inr (Or.inl ⟨rfl, ?_⟩)
    have q := (glue1 (X := (fun _ => True)) j hn1 hn2 (Or.inl rfl) ok2 hX mo hc ch)
    exact ⟨q.1, q.2.imp (fun o3 h3 q3 => by obtain ⟨b, e, q1, q2, -, q4⟩ := q3; exact ⟨b, e, q1, q2, q4⟩)⟩
  · refine Or.inr (Or.inr ⟨rfl, ?_⟩)
    have q := (glue1 (X := (fun _ => True)) j hn1 hn2 (Or.inr rfl) ok2 hX mo hc ch)
    exact ⟨q.1, q.2.imp (fun o3 h3 q3 => by obtain ⟨b, e, q1, q2, -, q4⟩ := q3; exact ⟨b, e, q1, q2, q4⟩)⟩

set_option maxHeartbeats 4000000 in
set_option maxRecDepth 100000 in
theorem kc_daysUntilMajority (hd : dc + 1 ≤ d2) (O : ∀ (h : AH) (s : ST) (bk dr : Nat) (a0 : Int32), Jd h s bk dr → OpC G mX10_daysUntilMajority mX12_daysUntilMajority dc d2 [some (.ref 0), some (.int a0), none] [some (.ref 216), some (.int a0), none] "java/lang/IndexOutOfBoundsException" "" (fun _ => True) h s) : Kc_daysUntilMajority G d2 0 216 269 J n := by
  intro h a0 hj
  obtain ⟨s, bk, dr, j, hn1, hn2⟩ := hj
  obtain ⟨t, V, s2, bk2, dr2, ok2, hX, k, mo⟩ := O h s bk dr a0 j
  refine w_daysUntilMajority (x := 0) (out := 269) hd j.poll k (fun o h1 p => ?_)
  obtain ⟨p1, hc, ch0⟩ := p
  have ch : Ch h h1 0 216 1 6 := ch0.sub (Nat.le_refl _) (Nat.le_refl _) (by omega) (by omega)
  clear ch0
  rcases p1 with ⟨rfl, rfl⟩ | ⟨rfl, rfl⟩ | ⟨rfl, hE2, rfl⟩
  · obtain ⟨f, af⟩ := j.out ch
    refine Or.inl ⟨V, f, rfl, af, ?_⟩
    have q := (glue0 (X := (fun _ => True)) j hn1 hn2 ok2 hX mo hc ch af)
    exact ⟨q.1, q.2.imp (fun o3 h3 q3 => by obtain ⟨b, e, q1, q2, -, q4⟩ := q3; exact ⟨b, e, q1, q2, q4⟩)⟩
  · refine Or.inr ⟨rfl, ?_⟩
    have q := (glue1 (X := (fun _ => True)) j hn1 hn2 (Or.inl rfl) ok2 hX mo hc ch)
    exact ⟨q.1, q.2.imp (fun o3 h3 q3 => by obtain ⟨b, e, q1, q2, -, q4⟩ := q3; exact ⟨b, e, q1, q2, q4⟩)⟩
  · exact absurd rfl hE2

set_option maxHeartbeats 4000000 in
set_option maxRecDepth 100000 in
theorem kc_beansToWin (hd : dc + 1 ≤ d2) (O : ∀ (h : AH) (s : ST) (bk dr : Nat) (a0 a1 : Int32), Jd h s bk dr → OpC G mX10_beansToWin mX12_beansToWin dc d2 [some (.ref 0), some (.int a0), some (.int a1)] [some (.ref 216), some (.int a0), some (.int a1)] "java/lang/IndexOutOfBoundsException" "" (fun _ => True) h s) : Kc_beansToWin G d2 0 216 269 J n := by
  intro h a0 a1 hj
  obtain ⟨s, bk, dr, j, hn1, hn2⟩ := hj
  obtain ⟨t, V, s2, bk2, dr2, ok2, hX, k, mo⟩ := O h s bk dr a0 a1 j
  refine w_beansToWin (x := 0) (out := 269) hd j.poll k (fun o h1 p => ?_)
  obtain ⟨p1, hc, ch0⟩ := p
  have ch : Ch h h1 0 216 1 6 := ch0.sub (Nat.le_refl _) (Nat.le_refl _) (by omega) (by omega)
  clear ch0
  rcases p1 with ⟨rfl, rfl⟩ | ⟨rfl, rfl⟩ | ⟨rfl, hE2, rfl⟩
  · obtain ⟨f, af⟩ := j.out ch
    refine Or.inl ⟨V, f, rfl, af, ?_⟩
    have q := (glue0 (X := (fun _ => True)) j hn1 hn2 ok2 hX mo hc ch af)
    exact ⟨q.1, q.2.imp (fun o3 h3 q3 => by obtain ⟨b, e, q1, q2, -, q4⟩ := q3; exact ⟨b, e, q1, q2, q4⟩)⟩
  · refine Or.inr ⟨rfl, ?_⟩
    have q := (glue1 (X := (fun _ => True)) j hn1 hn2 (Or.inl rfl) ok2 hX mo hc ch)
    exact ⟨q.1, q.2.imp (fun o3 h3 q3 => by obtain ⟨b, e, q1, q2, -, q4⟩ := q3; exact ⟨b, e, q1, q2, q4⟩)⟩
  · exact absurd rfl hE2

set_option maxHeartbeats 4000000 in
set_option maxRecDepth 100000 in
theorem kc_bestJarFor (hd : dc + 1 ≤ d2) (O : ∀ (h : AH) (s : ST) (bk dr : Nat) (a0 : Int32), Jd h s bk dr → OpC G mX10_bestJarFor mX12_bestJarFor dc d2 [some (.ref 0), some (.int a0), none, none, none, none] [some (.ref 216), some (.int a0)] "java/lang/IndexOutOfBoundsException" "" (fun _ => True) h s) : Kc_bestJarFor G d2 0 216 269 J n := by
  intro h a0 hj
  obtain ⟨s, bk, dr, j, hn1, hn2⟩ := hj
  obtain ⟨t, V, s2, bk2, dr2, ok2, hX, k, mo⟩ := O h s bk dr a0 j
  refine w_bestJarFor (x := 0) (out := 269) hd j.poll k (fun o h1 p => ?_)
  obtain ⟨p1, hc, ch0⟩ := p
  have ch : Ch h h1 0 216 1 6 := ch0.sub (Nat.le_refl _) (Nat.le_refl _) (by omega) (by omega)
  clear ch0
  rcases p1 with ⟨rfl, rfl⟩ | ⟨rfl, rfl⟩ | ⟨rfl, hE2, rfl⟩
  · obtain ⟨f, af⟩ := j.out ch
    refine Or.inl ⟨V, f, rfl, af, ?_⟩
    have q := (glue0 (X := (fun _ => True)) j hn1 hn2 ok2 hX mo hc ch af)
    exact ⟨q.1, q.2.imp (fun o3 h3 q3 => by obtain ⟨b, e, q1, q2, -, q4⟩ := q3; exact ⟨b, e, q1, q2, q4⟩)⟩
  · refine Or.inr ⟨rfl, ?_⟩
    have q := (glue1 (X := (fun _ => True)) j hn1 hn2 (Or.inl rfl) ok2 hX mo hc ch)
    exact ⟨q.1, q.2.imp (fun o3 h3 q3 => by obtain ⟨b, e, q1, q2, -, q4⟩ := q3; exact ⟨b, e, q1, q2, q4⟩)⟩
  · exact absurd rfl hE2

set_option maxHeartbeats 4000000 in
set_option maxRecDepth 100000 in
theorem kc_firstShaken (hd : dc + 1 ≤ d2) (O : ∀ (h : AH) (s : ST) (bk dr : Nat) (a0 : Int32), Jd h s bk dr → OpC G mX10_firstShaken mX12_firstShaken dc d2 [some (.ref 0), some (.int a0)] [some (.ref 216), some (.int a0)] "java/lang/IndexOutOfBoundsException" "" (fun _ => True) h s) : Kc_firstShaken G d2 0 216 269 J n := by
  intro h a0 hj
  obtain ⟨s, bk, dr, j, hn1, hn2⟩ := hj
  obtain ⟨t, V, s2, bk2, dr2, ok2, hX, k, mo⟩ := O h s bk dr a0 j
  refine w_firstShaken (x := 0) (out := 269) hd j.poll k (fun o h1 p => ?_)
  obtain ⟨p1, hc, ch0⟩ := p
  have ch : Ch h h1 0 216 1 6 := ch0.sub (Nat.le_refl _) (Nat.le_refl _) (by omega) (by omega)
  clear ch0
  rcases p1 with ⟨rfl, rfl⟩ | ⟨rfl, rfl⟩ | ⟨rfl, hE2, rfl⟩
  · obtain ⟨f, af⟩ := j.out ch
    refine Or.inl ⟨V, f, rfl, af, ?_⟩
    have q := (glue0 (X := (fun _ => True)) j hn1 hn2 ok2 hX mo hc ch af)
    exact ⟨q.1, q.2.imp (fun o3 h3 q3 => by obtain ⟨b, e, q1, q2, -, q4⟩ := q3; exact ⟨b, e, q1, q2, q4⟩)⟩
  · refine Or.inr ⟨rfl, ?_⟩
    have q := (glue1 (X := (fun _ => True)) j hn1 hn2 (Or.inl rfl) ok2 hX mo hc ch)
    exact ⟨q.1, q.2.imp (fun o3 h3 q3 => by obtain ⟨b, e, q1, q2, -, q4⟩ := q3; exact ⟨b, e, q1, q2, q4⟩)⟩
  · exact absurd rfl hE2

end KC
