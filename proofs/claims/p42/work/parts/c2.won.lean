/-! the cupboard by hand: seats by quota, all that is won, a label's seats -/
theorem dv_nn {m n : Nat} (hm : m < 2147483648) (hn2 : n < 2147483648) : nI m / nI n = nI (m / n) := by
  apply Int32.toInt_inj.mp
  have h1 := nI_toInt (n := m) (by omega)
  have h2 := nI_toInt (n := n) (by omega)
  have h3 := nI_toInt (n := m / n) (Nat.lt_of_le_of_lt (Nat.div_le_self m n) hm)
  rw [Int32.toInt_div, h1, h2, h3, Int.tdiv_eq_ediv_of_nonneg (by omega)]
  have h4 : ((m : Int) / (n : Int)) = ((m / n : Nat) : Int) := rfl
  rw [h4]
  have h5 : m / n < 2147483648 := Nat.lt_of_le_of_lt (Nat.div_le_self m n) hm
  generalize m / n = k at h5 ⊢
  rw [Int.bmod_eq_of_le (by omega) (by omega)]
section HX
variable {G : GT} {d : Nat} {h h0 : AH} {c n x be se wy a wr : Nat} {b : Nat → Nat} {F : Nat → Option Nat}

set_option maxHeartbeats 4000000 in
theorem s_hq_fin (hd : 1 ≤ d) (n6 : n ≤ 6) (naw : a ≠ wr) (ga : h0.1 ≤ a) (gw : h0.1 ≤ wr) {x0 x1 x5 x6 : Option Value} (o6 : ok1 x6 = true) {WW : Nat → Nat} : ∀ (s : Nat), ∀ (h9 : AH) (pf wf : Nat → Int32) (w l : Nat → Nat), s ≤ 9 → At h9 a (.inl (0, n, .inl pf)) → At h9 wr (.inl (0, n + 1, .inl wf)) → (∀ k, k < n → pf k = nI (l k)) → (∀ k, k < n → wf k = nI (w k)) → (∀ k, l k ≤ 1200) → (∀ k, n ≤ k → k < 6 → l k = 0) → (∀ k, w k + s ≤ 5000) → (∀ k, k < n → WW k = (quN s (w, l)).1 k) → Ch h0 h9 0 0 2 (2 * n + 1) → RQ G mX12_won d 233 [x0, x1, some (.ref a), some (.int (nI n)), some (.ref wr), x5, x6, some (.int (nI s)), some (.int (oI (fiN l 6)))] [] h9 (Rr fun r h1 => h0.1 ≤ r ∧ (∃ wf : Nat → Int32, At h1 r (.inl (0, n + 1, .inl wf)) ∧ ∀ k, k < n → wf k = nI (WW k)) ∧ Ch h0 h1 0 0 2 (2 * n + 1)) := by
  intro s
  induction s with
  | zero =>
    intro h9 pf wf w l s9 aa aw hp hw ll l0 wl hW ch
    have hW : ∀ k, k < n → WW k = w k := hW
    have f6 : fiN l n = fiN l 6 := fi_six n6 l0
    cases e : fiN l 6 with
    | none =>
      refine tX12_won_233  (r := ?_)
      refine tX12_won_235  (kf := fun c_ => by exfalso; exact c_ (show (-1 : Int32) < 0 by decide)) (kt := fun _ => ?_)
      refine tX12_won_269  (r := ?_)
      refine tX12_won_271  (r := ?_)
      refine tX12_won_272  (r := ?_)
      refine tX12_won_274 (j := n) (ha := (by first | assumption | (repeat (first | assumption | exact At.set_eq2 (by first | omega | (simp only [hset, hnew]; omega) | rfl | decide) | exact At.new_eq2 _ _ (by first | omega | (simp only [hset, hnew]; omega) | rfl | decide) | refine At.set_ne ?_ (by first | omega | (simp only [hset, hnew]; omega) | rfl | decide) | refine At.new_ne ?_)))) (hx := rfl) (hj := (by omega)) (hn := (by omega)) (r := ?_)
      refine tX12_won_275  (r := ?_)
      refine tX12_won_277  (hP := ?_)
      refine ⟨_, rfl, gw, ⟨_, At.set_eq2 aw.1, fun k hk => ?_⟩, Ch0.set ch gw⟩
      show (if k = n then _ else wf k) = _
      rw [if_neg (by omega), hw k hk, hW k hk]
    | some k1 =>
      have kn : k1 < n := fi_lt l n k1 (by rw [f6, e])
      refine tX12_won_233  (r := ?_)
      refine tX12_won_235  (kt := fun c_ => by exfalso; exact absurd c_ (nI_pos (n := k1) (by omega))) (kf := fun _ => ?_)
      refine tX12_won_238  (r := ?_)
      refine tX12_won_240  (kf := fun c_ => by exfalso; exact c_ (by decide)) (kt := fun _ => ?_)
      refine tX12_won_269  (r := ?_)
      refine tX12_won_271  (r := ?_)
      refine tX12_won_272  (r := ?_)
      refine tX12_won_274 (j := n) (ha := (by first | assumption | (repeat (first | assumption | exact At.set_eq2 (by first | omega | (simp only [hset, hnew]; omega) | rfl | decide) | exact At.new_eq2 _ _ (by first | omega | (simp only [hset, hnew]; omega) | rfl | decide) | refine At.set_ne ?_ (by first | omega | (simp only [hset, hnew]; omega) | rfl | decide) | refine At.new_ne ?_)))) (hx := rfl) (hj := (by omega)) (hn := (by omega)) (r := ?_)
      refine tX12_won_275  (r := ?_)
      refine tX12_won_277  (hP := ?_)
      refine ⟨_, rfl, gw, ⟨_, At.set_eq2 aw.1, fun k hk => ?_⟩, Ch0.set ch gw⟩
      show (if k = n then _ else wf k) = _
      rw [if_neg (by omega), hw k hk, hW k hk]
  | succ s ih =>
    intro h9 pf wf w l s9 aa aw hp hw ll l0 wl hW ch
    have f6 : fiN l n = fiN l 6 := fi_six n6 l0
    cases e : fiN l 6 with
    | none =>
      have hW : ∀ k, k < n → WW k = w k := fun k hk => by rw [hW k hk, quN_none e]
      refine tX12_won_233  (r := ?_)
      refine tX12_won_235  (kf := fun c_ => by exfalso; exact c_ (show (-1 : Int32) < 0 by decide)) (kt := fun _ => ?_)
      refine tX12_won_269  (r := ?_)
      refine tX12_won_271  (r := ?_)
      refine tX12_won_272  (r := ?_)
      refine tX12_won_274 (j := n) (ha := (by first | assumption | (repeat (first | assumption | exact At.set_eq2 (by first | omega | (simp only [hset, hnew]; omega) | rfl | decide) | exact At.new_eq2 _ _ (by first | omega | (simp only [hset, hnew]; omega) | rfl | decide) | refine At.set_ne ?_ (by first | omega | (simp only [hset, hnew]; omega) | rfl | decide) | refine At.new_ne ?_)))) (hx := rfl) (hj := (by omega)) (hn := (by omega)) (r := ?_)
      refine tX12_won_275  (r := ?_)
      refine tX12_won_277  (hP := ?_)
      refine ⟨_, rfl, gw, ⟨_, At.set_eq2 aw.1, fun k hk => ?_⟩, Ch0.set ch gw⟩
      show (if k = n then _ else wf k) = _
      rw [if_neg (by omega), hw k hk, hW k hk]
    | some k1 =>
      have kn : k1 < n := fi_lt l n k1 (by rw [f6, e])
      have fz6 : fiN (zr l k1) n = fiN (zr l k1) 6 := fi_six n6 (fun k q1 q2 => by unfold zr; rw [l0 k q1 q2]; split <;> rfl)
      have zv : ∀ k, k < n → upd pf k1 (nI 0) k = nI (zr l k1 k) := fun k hk => by
        show (if k = k1 then nI 0 else pf k) = nI (if k = k1 then 0 else l k)
        split
        · rfl
        · exact hp k hk
      refine tX12_won_233  (r := ?_)
      refine tX12_won_235  (kt := fun c_ => by exfalso; exact absurd c_ (nI_pos (n := k1) (by omega))) (kf := fun _ => ?_)
      refine tX12_won_238  (r := ?_)
      refine tX12_won_240  (kt := fun c_ => by exfalso; exact absurd (Eq.mp (ci_le0 (a := s + 1) (by omega)) c_) (by omega)) (kf := fun _ => ?_)
      refine tX12_won_243  (r := ?_)
      refine tX12_won_245  (r := ?_)
      refine tX12_won_247  (r := ?_)
      refine tX12_won_248 (j := k1) (ha := (by first | assumption | (repeat (first | assumption | exact At.set_eq2 (by first | omega | (simp only [hset, hnew]; omega) | rfl | decide) | exact At.new_eq2 _ _ (by first | omega | (simp only [hset, hnew]; omega) | rfl | decide) | refine At.set_ne ?_ (by first | omega | (simp only [hset, hnew]; omega) | rfl | decide) | refine At.new_ne ?_)))) (hx := rfl) (hj := (by omega)) (hn := (by omega)) (r := ?_)
      rw [hw k1 kn]
      refine tX12_won_249  (r := ?_)
      refine tX12_won_250  (r := ?_)
      rw [nI_add]
      refine tX12_won_251 (j := k1) (ha := (by first | assumption | (repeat (first | assumption | exact At.set_eq2 (by first | omega | (simp only [hset, hnew]; omega) | rfl | decide) | exact At.new_eq2 _ _ (by first | omega | (simp only [hset, hnew]; omega) | rfl | decide) | refine At.set_ne ?_ (by first | omega | (simp only [hset, hnew]; omega) | rfl | decide) | refine At.new_ne ?_)))) (hx := rfl) (hj := (by omega)) (hn := (by omega)) (r := ?_)
      refine tX12_won_252  (r := ?_)
      refine tX12_won_253  (r := ?_)
      refine tX12_won_255  (r := ?_)
      refine tX12_won_256 (j := k1) (ha := (At.set_ne aa naw)) (hx := rfl) (hj := kn) (hn := (by omega)) (r := ?_)
      refine tX12_won_257 (ho := o6) (r := ?_)
      rw [show nI (s + 1) + (-1) = nI s from nI_dec (by omega)]
      refine tX12_won_260  (r := ?_)
      refine tX12_won_261 (hd := (by omega)) (call := s_hfirst (d := d - 1) (p := zr l k1) (by omega) (At.set_eq2 aa.1) zv (fun k _ => by have := ll k; unfold zr; split <;> omega)) (k := ?_)
      rintro v h_ ⟨rfl, e9⟩
      rw [e9, fz6]
      refine tX12_won_264  (r := ?_)
      refine tX12_won_266 (r := ?_)
      refine ih _ _ _ (fun i => if i = k1 then w i + 1 else w i) (zr l k1) (by omega) (At.set_eq2 aa.1) (At.set_ne (At.set_eq2 aw.1) (Ne.symm naw)) zv (fun k hk => ?_) (fun k => by have := ll k; unfold zr; split <;> omega) (fun k q1 q2 => by unfold zr; rw [l0 k q1 q2]; split <;> rfl) (fun k => by have := wl k; show (if k = k1 then w k + 1 else w k) + s ≤ 5000; split <;> omega) (fun k hk => by rw [hW k hk, quN_some e s]; rfl) (Ch0.set (Ch0.set ch gw) ga)
      show (if k = k1 then _ else wf k) = nI (if k = k1 then w k + 1 else w k)
      by_cases z : k = k1
      · rw [if_pos z, if_pos z, z]
      · rw [if_neg z, if_neg z]
        exact hw k hk
set_option maxHeartbeats 4000000 in
theorem s_hq_l (hd : 1 ≤ d) (n6 : n ≤ 6) (se9 : se ≤ 9) {p : Nat → Nat} {t Q : Nat} (eQ : Q = t / (se + 1) + 1) (Q9 : Q ≤ 5000) (pl : ∀ k, p k ≤ 1200) (p0 : ∀ k, n ≤ k → k < 6 → p k = 0) (pt : su p 6 = t) (naw : a ≠ wr) (ga : h0.1 ≤ a) (gw : h0.1 ≤ wr) {x0 x1 x5 : Option Value} {WW : Nat → Nat} (hW : ∀ k, k < n → WW k = quo p t se k) : ∀ (nn i : Nat) (h9 : AH) (pf wf : Nat → Int32), n ≤ i + nn → i ≤ n → At h9 a (.inl (0, n, .inl pf)) → At h9 wr (.inl (0, n + 1, .inl wf)) → (∀ k, k < n → pf k = nI (if k < i then p k - p k / Q * Q else p k)) → (∀ k, k < n → wf k = nI (if k < i then p k / Q else 0)) → Ch h0 h9 0 0 2 (2 * n + 1) → RQ G mX12_won d 182 [x0, x1, some (.ref a), some (.int (nI n)), some (.ref wr), x5, some (.int (nI Q)), some (.int (nI (se - su (fun k => p k / Q) i))), some (.int (nI i))] [] h9 (Rr fun r h1 => h0.1 ≤ r ∧ (∃ wf : Nat → Int32, At h1 r (.inl (0, n + 1, .inl wf)) ∧ ∀ k, k < n → wf k = nI (WW k)) ∧ Ch h0 h1 0 0 2 (2 * n + 1)) := by
  have ex : ∀ (i : Nat) (h9 : AH) (pf wf : Nat → Int32), i = n → At h9 a (.inl (0, n, .inl pf)) → At h9 wr (.inl (0, n + 1, .inl wf)) → (∀ k, k < n → pf k = nI (if k < i then p k - p k / Q * Q else p k)) → (∀ k, k < n → wf k = nI (if k < i then p k / Q else 0)) → Ch h0 h9 0 0 2 (2 * n + 1) → RQ G mX12_won d 182 [x0, x1, some (.ref a), some (.int (nI n)), some (.ref wr), x5, some (.int (nI Q)), some (.int (nI (se - su (fun k => p k / Q) i))), some (.int (nI i))] [] h9 (Rr fun r h1 => h0.1 ≤ r ∧ (∃ wf : Nat → Int32, At h1 r (.inl (0, n + 1, .inl wf)) ∧ ∀ k, k < n → wf k = nI (WW k)) ∧ Ch h0 h1 0 0 2 (2 * n + 1)) := by
    intro i h9 pf wf hi aa aw hp hw ch
    subst hi
    have q6 := quota_le (p := p) (t := t) (se := se) pt
    rw [← eQ] at q6
    have qi : su (fun k => p k / Q) i ≤ su (fun k => p k / Q) 6 := su_le (by omega)
    have qj : i < 6 → su (fun k => p k / Q) (i + 1) ≤ su (fun k => p k / Q) 6 := fun z => su_le (by omega)
    refine tX12_won_182  (r := ?_)
    refine tX12_won_184  (r := ?_)
    refine tX12_won_185  (kf := fun c_ => by exfalso; (simp (disch := first | omega | decide) only [ci_lt, ci_le, ci_eq, ci_lt0, ci_ge0, ci_gt0, ci_le0, ci_eq0, ci_m1_lt, ci_m1_le, ci_lt_m1, ci_le_m1, ci_eq_m1, ci_m1_eq, not_true, not_false_iff, Nat.not_lt, Nat.not_le] at c_ <;> omega)) (kt := fun _ => ?_)
    refine tX12_won_227  (r := ?_)
    refine tX12_won_228 (hd := (by omega)) (call := s_hfirst (d := d - 1) (p := fun k => p k - p k / Q * Q) (by omega) aa (fun k hk => by rw [hp k hk, if_pos hk]) (fun k _ => by have := pl k; show p k - _ < _; omega)) (k := ?_)
    rintro v h_ ⟨rfl, e9⟩
    rw [e9, fi_six (p := fun k => p k - p k / Q * Q) n6 (fun k q1 q2 => by show p k - _ = 0; rw [p0 k q1 q2, Nat.zero_sub])]
    refine tX12_won_231  (r := ?_)
    refine s_hq_fin hd n6 naw ga gw rfl (se - su (fun k => p k / Q) i) h9 pf wf (fun k => p k / Q) (fun k => p k - p k / Q * Q) (by omega) aa aw (fun k hk => by rw [hp k hk, if_pos hk]) (fun k hk => by rw [hw k hk, if_pos hk]) (fun k => by have := pl k; show p k - _ ≤ _; omega) (fun k q1 q2 => by show p k - _ = 0; rw [p0 k q1 q2, Nat.zero_sub]) (fun k => by have h1 := pl k; have h2 := Nat.div_le_self (p k) Q; show p k / Q + _ ≤ _; omega) (fun k hk => ?_) ch
    rw [hW k hk]
    unfold quo
    rw [← eQ, su_six n6 (fun k q1 q2 => by show p k / Q = 0; rw [p0 k q1 q2, Nat.zero_div])]
  intro nn
  induction nn with
  | zero => exact fun i h9 pf wf h1_ h2_ => ex i h9 pf wf (by omega)
  | succ nn ih =>
    intro i h9 pf wf h1_ h2_ aa aw hp hw ch
    by_cases hi : i = n
    · exact ex i h9 pf wf hi aa aw hp hw ch
    have hi2 : i < n := by omega
    have q6 := quota_le (p := p) (t := t) (se := se) pt
    rw [← eQ] at q6
    have qi : su (fun k => p k / Q) i ≤ su (fun k => p k / Q) 6 := su_le (by omega)
    have qj : i < 6 → su (fun k => p k / Q) (i + 1) ≤ su (fun k => p k / Q) 6 := fun z => su_le (by omega)
    refine tX12_won_182  (r := ?_)
    refine tX12_won_184  (r := ?_)
    refine tX12_won_185  (kt := fun c_ => by exfalso; (simp (disch := first | omega | decide) only [ci_lt, ci_le, ci_eq, ci_lt0, ci_ge0, ci_gt0, ci_le0, ci_eq0, ci_m1_lt, ci_m1_le, ci_lt_m1, ci_le_m1, ci_eq_m1, ci_m1_eq, not_true, not_false_iff, Nat.not_lt, Nat.not_le] at c_ <;> omega)) (kf := fun _ => ?_)
    have qj2 := qj (by omega)
    have qj3 : su (fun k => p k / Q) (i + 1) = su (fun k => p k / Q) i + p i / Q := rfl
    refine s_hq_in (h0 := h0) n6 hi2 (by rw [eQ]; exact Nat.succ_pos _) Q9 naw ga gw (p i / Q) (p i) 0 (se - su (fun k => p k / Q) i) h9 pf wf rfl (pl i) (by have := pl i; have := Nat.div_le_self (p i) Q; omega) (by omega) (by omega) aa aw (by rw [hp i hi2, if_neg (Nat.lt_irrefl i)]) (by rw [hw i hi2, if_neg (Nat.lt_irrefl i)]) (fun h1 pf1 wf1 b1 b2 b3 b4 b5 b6 b7 b8 => ?_)
    rw [show se - su (fun k => p k / Q) i - p i / Q = se - su (fun k => p k / Q) (i + 1) by show _ = se - (su (fun k => p k / Q) i + p i / Q); omega]
    refine tX12_won_221  (r := ?_)
    rw [nI_add]
    refine tX12_won_224 (r := ?_)
    refine ih (i + 1) h1 pf1 wf1 (by omega) (by omega) b1 b2 (fun k hk => ?_) (fun k hk => ?_) ⟨by rw [b6]; exact ch.1, by rw [b6]; exact ch.2.1, by rw [b7]; exact ch.2.2.1, fun j _ j2 => absurd j2 (Nat.not_lt_zero j), fun j _ j2 => (b8 j (by omega) (by omega)).trans (ch.2.2.2.2 j (Nat.zero_le _) j2)⟩
    · by_cases z : k = i
      · subst z
        rw [b4, if_pos (Nat.lt_succ_self k)]
      · rw [(b3 k z).1, hp k hk]
        by_cases y : k < i
        · rw [if_pos y, if_pos (by omega)]
        · rw [if_neg y, if_neg (by omega)]
    · by_cases z : k = i
      · subst z
        rw [b5, if_pos (Nat.lt_succ_self k), Nat.zero_add]
      · rw [(b3 k z).2, hw k hk]
        by_cases y : k < i
        · rw [if_pos y, if_pos (by omega)]
        · rw [if_neg y, if_neg (by omega)]
set_option maxHeartbeats 4000000 in
theorem s_hwon (hd : 8 ≤ d) (n6 : n ≤ 6) (q : FoR h c n F) (hF : ∀ k j, k < n → F k = some j → j < n) (hR : ∀ k, k < n → F (rt F k) = none) (hl : ∀ k, k < n → rt F k < n) (jh : JhR h x be n se wy b) (b0 : ∀ k, n ≤ k → k < 6 → b k = 0) (bs : su b 6 ≤ 1200) (se9 : se ≤ 9) (wy3 : wy < 3) (ps : su (po (rt F) b) 6 = su b 6) : RQ G mX12_won d 0 [some (.ref c), some (.ref x), none, none, none, none, none, none, none] [] h (Rr fun r h1 => h.1 ≤ r ∧ (∃ wf : Nat → Int32, At h1 r (.inl (0, n + 1, .inl wf)) ∧ ∀ k, k < n → wf k = nI (wo (po (rt F) b) (su b 6) se wy k)) ∧ Ch h h1 0 0 2 (2 * n + 1)) := by
  have pb : ∀ k, po (rt F) b k ≤ 1200 := fun k => Nat.le_trans po_le9 bs
  have pt := po_tail hl b0 n6
  have p06 : ∀ k, n ≤ k → k < 6 → po (rt F) b k = 0 := fun k k1 _ => pt k k1
  have f6 : fiN (po (rt F) b) n = fiN (po (rt F) b) 6 := fi_six n6 p06
  obtain ⟨_, _, _, _, _, g4, -, -⟩ := id q
  refine tX12_won_0  (r := ?_)
  refine tX12_won_1  (r := ?_)
  refine tX12_won_2 (hd := (by omega)) (ha := (by first | assumption | (repeat (first | assumption | exact At.set_eq2 (by first | omega | (simp only [hset, hnew]; omega) | rfl | decide) | exact At.new_eq2 _ _ (by first | omega | (simp only [hset, hnew]; omega) | rfl | decide) | refine At.set_ne ?_ (by first | omega | (simp only [hset, hnew]; omega) | rfl | decide) | refine At.new_ne ?_)))) (call := s_blocs (d := d - 1) (by omega) n6 q hF hR hl jh b0) (k := ?_)
  rintro a h2 ⟨ga, ⟨pf, aa, hp⟩, ch⟩
  refine tX12_won_5  (r := ?_)
  refine tX12_won_6  (r := ?_)
  refine tX12_won_7 (t := 0) (ha := (by first | assumption | (repeat (first | assumption | exact At.set_eq2 (by first | omega | (simp only [hset, hnew]; omega) | rfl | decide) | exact At.new_eq2 _ _ (by first | omega | (simp only [hset, hnew]; omega) | rfl | decide) | refine At.set_ne ?_ (by first | omega | (simp only [hset, hnew]; omega) | rfl | decide) | refine At.new_ne ?_)))) (ht := rfl) (r := ?_)
  refine tX12_won_8  (r := ?_)
  refine tX12_won_9  (r := ?_)
  refine tX12_won_10  (r := ?_)
  refine tX12_won_11  (r := ?_)
  rw [nI_add]
  refine tX12_won_12 (hx := rfl) (hn := (by omega)) (r := ?_)
  have aw := At.new_eq h2 (n + 1) (.inl (0, n + 1, .inl (fun _ => 0)))
  have ch2 : Ch h (hnew h2 (n + 1) (.inl (0, n + 1, .inl (fun _ => 0)))) 0 0 2 (2 * n + 1) := (ch.new (Nat.zero_le _)).sub (Nat.le_refl _) (Nat.le_refl _) (by omega) (by omega)
  have gw : h.1 ≤ h2.1 := ch.1
  have naw : a ≠ h2.1 := Nat.ne_of_lt aa.1
  obtain ⟨j1, j2, j3, bf, j4, j5⟩ := jh.ch ch2
  obtain ⟨_, _, _, _, _, cc, -, -⟩ := q.ch ch2
  have nbw : be ≠ h2.1 := by
    obtain ⟨_, _, _, _, z, _⟩ := jh
    have := z.1
    omega
  refine tX12_won_14  (r := ?_)
  refine tX12_won_16  (r := ?_)
  refine tX12_won_17 (hd := (by omega)) (call := s_hfirst (d := d - 1) (by omega) (At.new_ne aa) hp (fun k _ => by have := pb k; omega)) (k := ?_)
  rintro v h_ ⟨rfl, e9⟩
  rw [e9, f6]
  refine tX12_won_20  (r := ?_)
  cases e : fiN (po (rt F) b) 6 with
  | none =>
    refine tX12_won_22  (r := ?_)
    refine tX12_won_24  (kt := fun c_ => by exfalso; exact absurd c_ (show ¬ (0 : Int32) ≤ -1 by decide)) (kf := fun _ => ?_)
    refine tX12_won_27  (r := ?_)
    refine tX12_won_29  (r := ?_)
    refine tX12_won_30  (r := ?_)
    refine tX12_won_31 (ha := j3) (hv := rfl) (r := ?_)
    refine tX12_won_34 (j := n) (ha := (by first | assumption | (repeat (first | assumption | exact At.set_eq2 (by first | omega | (simp only [hset, hnew]; omega) | rfl | decide) | exact At.new_eq2 _ _ (by first | omega | (simp only [hset, hnew]; omega) | rfl | decide) | refine At.set_ne ?_ (by first | omega | (simp only [hset, hnew]; omega) | rfl | decide) | refine At.new_ne ?_)))) (hx := rfl) (hj := (by omega)) (hn := (by omega)) (r := ?_)
    refine tX12_won_35  (r := ?_)
    refine tX12_won_37  (hP := ?_)
    refine ⟨_, rfl, gw, ⟨_, At.set_eq2 aw.1, fun k hk => ?_⟩, Ch0.set ch2 gw⟩
    show (if k = n then _ else nI 0) = _
    rw [if_neg (by omega)]
    unfold wo
    rw [e]
  | some f =>
    have fn : f < n := fi_lt _ n f (by rw [f6, e])
    rcases (by omega : wy = 0 ∨ wy = 1 ∨ wy = 2) with rfl | rfl | rfl
    · refine tX12_won_22  (r := ?_)
      refine tX12_won_24  (kf := fun c_ => by exfalso; exact c_ (Eq.mpr (ci_ge0 (a := f) (by omega)) trivial)) (kt := fun _ => ?_)
      refine tX12_won_38  (r := ?_)
      refine tX12_won_39 (ha := j3) (hv := rfl) (r := ?_)
      refine tX12_won_42  (kt := fun c_ => by exfalso; exact c_ rfl) (kf := fun _ => ?_)
      refine tX12_won_45  (r := ?_)
      refine tX12_won_47  (r := ?_)
      refine tX12_won_49  (r := ?_)
      refine tX12_won_50 (ha := j3) (hv := rfl) (r := ?_)
      refine tX12_won_53 (j := f) (ha := (by first | assumption | (repeat (first | assumption | exact At.set_eq2 (by first | omega | (simp only [hset, hnew]; omega) | rfl | decide) | exact At.new_eq2 _ _ (by first | omega | (simp only [hset, hnew]; omega) | rfl | decide) | refine At.set_ne ?_ (by first | omega | (simp only [hset, hnew]; omega) | rfl | decide) | refine At.new_ne ?_)))) (hx := rfl) (hj := (by omega)) (hn := (by omega)) (r := ?_)
      refine tX12_won_54  (r := ?_)
      refine tX12_won_56  (hP := ?_)
      refine ⟨_, rfl, gw, ⟨_, At.set_eq2 aw.1, fun k hk => ?_⟩, Ch0.set ch2 gw⟩
      show (if k = f then nI se else nI 0) = _
      unfold wo
      rw [e]
      show _ = nI ((if 0 = 0 then (fun k => if k = f then se else 0) else _) k)
      rw [if_pos rfl]
      show _ = nI (if k = f then se else 0)
      split <;> rfl
    · refine tX12_won_22  (r := ?_)
      refine tX12_won_24  (kf := fun c_ => by exfalso; exact c_ (Eq.mpr (ci_ge0 (a := f) (by omega)) trivial)) (kt := fun _ => ?_)
      refine tX12_won_38  (r := ?_)
      refine tX12_won_39 (ha := j3) (hv := rfl) (r := ?_)
      refine tX12_won_42  (kf := fun c_ => by exfalso; exact absurd c_ (by decide)) (kt := fun _ => ?_)
      refine tX12_won_57  (r := ?_)
      refine tX12_won_58 (ha := j3) (hv := rfl) (r := ?_)
      refine tX12_won_61  (r := ?_)
      refine tX12_won_62  (kt := fun c_ => by exfalso; exact c_ rfl) (kf := fun _ => ?_)
      refine tX12_won_65  (r := ?_)
      refine tX12_won_66  (r := ?_)
      refine s_hdiv_l (h0 := h) rfl n6 se9 (fun k => pb k) p06 e gw naw rfl se 0 _ _ _ _ _ (by omega) (by omega) ⟨j1, j2, j3, bf, j4, j5⟩ (At.new_ne aa) hp aw (fun _ _ => rfl) nbw ch2
    · refine tX12_won_22  (r := ?_)
      refine tX12_won_24  (kf := fun c_ => by exfalso; exact c_ (Eq.mpr (ci_ge0 (a := f) (by omega)) trivial)) (kt := fun _ => ?_)
      refine tX12_won_38  (r := ?_)
      refine tX12_won_39 (ha := j3) (hv := rfl) (r := ?_)
      refine tX12_won_42  (kf := fun c_ => by exfalso; exact absurd c_ (by decide)) (kt := fun _ => ?_)
      refine tX12_won_57  (r := ?_)
      refine tX12_won_58 (ha := j3) (hv := rfl) (r := ?_)
      refine tX12_won_61  (r := ?_)
      refine tX12_won_62  (kf := fun c_ => by exfalso; exact absurd c_ (by decide)) (kt := fun _ => ?_)
      refine tX12_won_157  (r := ?_)
      refine tX12_won_158  (r := ?_)
      refine tX12_won_159  (r := ?_)
      refine tX12_won_160 (hd := (by omega)) (ha := cc) (call := s_hturn (d := d - 1) n6 ⟨j1, j2, j3, bf, j4, j5⟩) (k := ?_)
      rintro v h_ ⟨rfl, e9⟩
      rw [e9, su_six n6 b0]
      refine tX12_won_163  (r := ?_)
      refine tX12_won_164  (r := ?_)
      refine tX12_won_165 (ha := j3) (hv := rfl) (r := ?_)
      refine tX12_won_168  (r := ?_)
      rw [nI_add]
      refine tX12_won_169 (hne := (fun z => by have := Eq.mp (ci_eq0 (a := 1 + se) (by omega)) z; omega)) (r := ?_)
      rw [dv_nn (by omega) (by omega)]
      refine tX12_won_170  (r := ?_)
      rw [nI_add]
      refine tX12_won_171  (r := ?_)
      refine tX12_won_173  (r := ?_)
      refine tX12_won_174 (ha := j3) (hv := rfl) (r := ?_)
      refine tX12_won_177  (r := ?_)
      refine tX12_won_179  (r := ?_)
      refine tX12_won_180  (r := ?_)
      refine s_hq_l (h0 := h) (t := su b 6) (Q := 1 + su b 6 / (1 + se)) (by omega) n6 se9 (by rw [Nat.add_comm 1 se, Nat.add_comm 1]) (by have := Nat.div_le_self (su b 6) (1 + se); omega) (fun k => pb k) p06 ps naw ga gw (fun k hk => ?_) n 0 _ _ _ (by omega) (by omega) (At.new_ne aa) aw (fun k hk => by rw [hp k hk, if_neg (Nat.not_lt_zero k)]) (fun k hk => by rw [if_neg (Nat.not_lt_zero k)]; rfl) ch2
      unfold wo
      rw [e]
      rfl
end HX
