/-! the class's tokens and its reader -/
def TkX (h : AH) (b : Nat) (K : TKS) : Prop := At h b (.inr (7, [.ref (b + 1), .ref (b + 2), .ref (b + 3), .int (nI K.1)])) ∧ (∃ f : Nat → Option Nat, At h (b + 1) (.inl (4, 401, .inr (.inr (.inr (.inr f))))) ∧ ∀ k, k < K.1 → f k = some (OLD + K.2.1 k) ∧ K.2.1 k < 43) ∧ (∃ f : Nat → Int32, At h (b + 2) (.inl (0, 401, .inl f)) ∧ ∀ k, k < K.1 → f k = nI (K.2.2.1 k)) ∧ (∃ f : Nat → Int64, At h (b + 3) (.inl (2, 401, .inr (.inl f))) ∧ ∀ k, k < K.1 → f k = nL (K.2.2.2 k) ∧ K.2.2.2 k < 1099511627776) ∧ K.1 ≤ 401
theorem TkX.sm {h h1 : AH} {b lo hi : Nat} {K : TKS} (q : TkX h b K) (sm : Sm h h1 lo hi) (e : b + 4 ≤ lo ∨ hi ≤ b) : TkX h1 b K := by
  obtain ⟨a0, ⟨f1, a1, c1⟩, ⟨f2, a2, c2⟩, ⟨f3, a3, c3⟩, l⟩ := q
  exact ⟨sm.at a0 (by omega), ⟨f1, sm.at a1 (by omega), c1⟩, ⟨f2, sm.at a2 (by omega), c2⟩, ⟨f3, sm.at a3 (by omega), c3⟩, l⟩
theorem TkX.kd {h : AH} {b : Nat} {K : TKS} (q : TkX h b K) (p : Nat) : kdT K p < 43 := by
  unfold kdT
  split
  · obtain ⟨f1, a1, c1⟩ := q.2.1
    rename_i z
    exact (c1 p z).2
  · decide
theorem TkX.vv {h : AH} {b : Nat} {K : TKS} (q : TkX h b K) (p : Nat) : vvT K p < 1099511627776 := by
  unfold vvT
  split
  · obtain ⟨f1, a1, c1⟩ := q.2.2.2.1
    rename_i z
    exact (c1 p z).2
  · decide
section TOA
variable {G : GT} {d : Nat} {h h0 : AH} {b : Nat} {K : TKS}

set_option maxHeartbeats 4000000 in
set_option maxRecDepth 100000 in
theorem s_tkKind (tx : TkX h b K) {p : Nat} (hp : p < 1000) : RQ G mX9_kindAt d 0 [some (.ref b), some (.int (nI p)), none] [] h (Rr fun r h1 => r = OLD + kdT K p ∧ h1 = h) := by
  obtain ⟨a0, ⟨f1, a1, c1⟩, ⟨f2, a2, c2⟩, ⟨f3, a3, c3⟩, l⟩ := id tx
  refine tX9_kindAt_0  (r := ?_)
  refine tX9_kindAt_1  (kt := fun c_ => by exfalso; exact absurd c_ (nI_pos (by omega))) (kf := fun _ => ?_)
  refine tX9_kindAt_4  (r := ?_)
  refine tX9_kindAt_5  (r := ?_)
  refine tX9_kindAt_6 (ha := (by first | assumption | (repeat (first | assumption | exact At.set_eq2 (by first | omega | (simp only [hset, hnew]; omega) | rfl | decide) | exact At.new_eq2 _ _ (by first | omega | (simp only [hset, hnew]; omega) | rfl | decide) | refine At.set_ne ?_ (by first | omega | (simp only [hset, hnew]; omega) | rfl | decide) | refine At.new_ne ?_)))) (hv := rfl) (r := ?_)
  refine tX9_kindAt_9  (kt := fun c_9 => ?_) (kf := fun c_9 => ?_)
  · have hge : ¬ p < K.1 := fun z => by have := (nI_leI (by omega) (by omega)).mp c_9; omega
    have e : kdT K p = 42 := if_neg hge
    refine tX9_kindAt_21  (r := ?_)
    refine tX9_kindAt_24 (k := OLD + 42) (r := ?_)
    refine tX9_kindAt_25 (r := ?_)
    refine tX9_kindAt_26 (r0 := some (OLD + 42)) (kt := fun _ => ?_) (kf := fun z => nomatch z)
    refine tX9_kindAt_35 (k := OLD + 42) (r := ?_)
    refine tX9_kindAt_36 (hP := ?_)
    exact ⟨_, rfl, by rw [e], rfl⟩
  · have lt : p < K.1 := Nat.lt_of_not_le (fun z => c_9 ((nI_leI (by omega) (by omega)).mpr z))
    refine tX9_kindAt_12  (r := ?_)
    refine tX9_kindAt_13 (ha := (by first | assumption | (repeat (first | assumption | exact At.set_eq2 (by first | omega | (simp only [hset, hnew]; omega) | rfl | decide) | exact At.new_eq2 _ _ (by first | omega | (simp only [hset, hnew]; omega) | rfl | decide) | refine At.set_ne ?_ (by first | omega | (simp only [hset, hnew]; omega) | rfl | decide) | refine At.new_ne ?_)))) (hv := rfl) (r := ?_)
    refine tX9_kindAt_16  (r := ?_)
    refine tX9_kindAt_17 (ha := (by first | assumption | (repeat (first | assumption | exact At.set_eq2 (by first | omega | (simp only [hset, hnew]; omega) | rfl | decide) | exact At.new_eq2 _ _ (by first | omega | (simp only [hset, hnew]; omega) | rfl | decide) | refine At.set_ne ?_ (by first | omega | (simp only [hset, hnew]; omega) | rfl | decide) | refine At.new_ne ?_)))) (hx := rfl) (hj := (by omega)) (hn := (by decide)) (r := ?_)
    rw [(c1 p lt).1]
    refine tX9_kindAt_18 (r := ?_)
    have e : kdT K p = K.2.1 p := if_pos lt
    refine tX9_kindAt_24q (r0 := some (OLD + K.2.1 p)) (r := ?_)
    refine tX9_kindAt_25q (r := ?_)
    refine tX9_kindAt_26 (r0 := some (OLD + K.2.1 p)) (kt := fun _ => ?_) (kf := fun z => nomatch z)
    refine tX9_kindAt_35 (k := OLD + K.2.1 p) (r := ?_)
    refine tX9_kindAt_36 (hP := ?_)
    exact ⟨_, rfl, by rw [e], rfl⟩

set_option maxHeartbeats 4000000 in
set_option maxRecDepth 100000 in
theorem s_tkStart (tx : TkX h b K) {p : Nat} (hp : p < 1000) : RQ G mX9_startAt d 0 [some (.ref b), some (.int (nI p))] [] h (Ri fun v h1 => v = nI (ssT K p) ∧ h1 = h) := by
  obtain ⟨a0, ⟨f1, a1, c1⟩, ⟨f2, a2, c2⟩, ⟨f3, a3, c3⟩, l⟩ := id tx
  refine tX9_startAt_0  (r := ?_)
  refine tX9_startAt_1  (kt := fun c_ => by exfalso; exact absurd c_ (nI_pos (by omega))) (kf := fun _ => ?_)
  refine tX9_startAt_4  (r := ?_)
  refine tX9_startAt_5  (r := ?_)
  refine tX9_startAt_6 (ha := (by first | assumption | (repeat (first | assumption | exact At.set_eq2 (by first | omega | (simp only [hset, hnew]; omega) | rfl | decide) | exact At.new_eq2 _ _ (by first | omega | (simp only [hset, hnew]; omega) | rfl | decide) | refine At.set_ne ?_ (by first | omega | (simp only [hset, hnew]; omega) | rfl | decide) | refine At.new_ne ?_)))) (hv := rfl) (r := ?_)
  refine tX9_startAt_9  (kt := fun c_9 => ?_) (kf := fun c_9 => ?_)
  · have hge : ¬ p < K.1 := fun z => by have := (nI_leI (by omega) (by omega)).mp c_9; omega
    have e : ssT K p = 0 := if_neg hge
    refine tX9_startAt_21  (r := ?_)
    refine tX9_startAt_22  (hP := ?_)
    exact ⟨_, rfl, by rw [e], rfl⟩
  · have lt : p < K.1 := Nat.lt_of_not_le (fun z => c_9 ((nI_leI (by omega) (by omega)).mpr z))
    refine tX9_startAt_12  (r := ?_)
    refine tX9_startAt_13 (ha := (by first | assumption | (repeat (first | assumption | exact At.set_eq2 (by first | omega | (simp only [hset, hnew]; omega) | rfl | decide) | exact At.new_eq2 _ _ (by first | omega | (simp only [hset, hnew]; omega) | rfl | decide) | refine At.set_ne ?_ (by first | omega | (simp only [hset, hnew]; omega) | rfl | decide) | refine At.new_ne ?_)))) (hv := rfl) (r := ?_)
    refine tX9_startAt_16  (r := ?_)
    refine tX9_startAt_17 (ha := (by first | assumption | (repeat (first | assumption | exact At.set_eq2 (by first | omega | (simp only [hset, hnew]; omega) | rfl | decide) | exact At.new_eq2 _ _ (by first | omega | (simp only [hset, hnew]; omega) | rfl | decide) | refine At.set_ne ?_ (by first | omega | (simp only [hset, hnew]; omega) | rfl | decide) | refine At.new_ne ?_)))) (hx := rfl) (hj := (by omega)) (hn := (by decide)) (r := ?_)
    rw [c2 p lt]
    refine tX9_startAt_18 (r := ?_)
    refine tX9_startAt_22  (hP := ?_)
    exact ⟨_, rfl, by rw [show ssT K p = K.2.2.1 p from if_pos lt], rfl⟩

set_option maxHeartbeats 4000000 in
set_option maxRecDepth 100000 in
theorem s_tkValue (tx : TkX h b K) {p : Nat} (hp : p < 1000) : RQ G mX9_valueAt d 0 [some (.ref b), some (.int (nI p))] [] h (Rj fun v h1 => v = nL (vvT K p) ∧ h1 = h) := by
  obtain ⟨a0, ⟨f1, a1, c1⟩, ⟨f2, a2, c2⟩, ⟨f3, a3, c3⟩, l⟩ := id tx
  refine tX9_valueAt_0  (r := ?_)
  refine tX9_valueAt_1  (kt := fun c_ => by exfalso; exact absurd c_ (nI_pos (by omega))) (kf := fun _ => ?_)
  refine tX9_valueAt_4  (r := ?_)
  refine tX9_valueAt_5  (r := ?_)
  refine tX9_valueAt_6 (ha := (by first | assumption | (repeat (first | assumption | exact At.set_eq2 (by first | omega | (simp only [hset, hnew]; omega) | rfl | decide) | exact At.new_eq2 _ _ (by first | omega | (simp only [hset, hnew]; omega) | rfl | decide) | refine At.set_ne ?_ (by first | omega | (simp only [hset, hnew]; omega) | rfl | decide) | refine At.new_ne ?_)))) (hv := rfl) (r := ?_)
  refine tX9_valueAt_9  (kt := fun c_9 => ?_) (kf := fun c_9 => ?_)
  · have hge : ¬ p < K.1 := fun z => by have := (nI_leI (by omega) (by omega)).mp c_9; omega
    have e : vvT K p = 0 := if_neg hge
    refine tX9_valueAt_21  (r := ?_)
    refine tX9_valueAt_22  (hP := ?_)
    exact ⟨_, rfl, by rw [e]; rfl, rfl⟩
  · have lt : p < K.1 := Nat.lt_of_not_le (fun z => c_9 ((nI_leI (by omega) (by omega)).mpr z))
    refine tX9_valueAt_12  (r := ?_)
    refine tX9_valueAt_13 (ha := (by first | assumption | (repeat (first | assumption | exact At.set_eq2 (by first | omega | (simp only [hset, hnew]; omega) | rfl | decide) | exact At.new_eq2 _ _ (by first | omega | (simp only [hset, hnew]; omega) | rfl | decide) | refine At.set_ne ?_ (by first | omega | (simp only [hset, hnew]; omega) | rfl | decide) | refine At.new_ne ?_)))) (hv := rfl) (r := ?_)
    refine tX9_valueAt_16  (r := ?_)
    refine tX9_valueAt_17 (ha := (by first | assumption | (repeat (first | assumption | exact At.set_eq2 (by first | omega | (simp only [hset, hnew]; omega) | rfl | decide) | exact At.new_eq2 _ _ (by first | omega | (simp only [hset, hnew]; omega) | rfl | decide) | refine At.set_ne ?_ (by first | omega | (simp only [hset, hnew]; omega) | rfl | decide) | refine At.new_ne ?_)))) (hx := rfl) (hj := (by omega)) (hn := (by decide)) (r := ?_)
    rw [(c3 p lt).1]
    refine tX9_valueAt_18 (r := ?_)
    refine tX9_valueAt_22  (hP := ?_)
    exact ⟨_, rfl, by rw [show vvT K p = K.2.2.2 p from if_pos lt], rfl⟩

end TOA
/-- the reader's cell and the draft's change, nothing else -/
def Sq (h h1 : AH) (r dr : Nat) : Prop := h1.1 = h.1 ∧ h1.2.1 = h.2.1 ∧ Un h h1 0 r ∧ Un h h1 (r + 1) dr ∧ Un h h1 (dr + 58) h.1
theorem Sq.rf (h : AH) (r dr : Nat) : Sq h h r dr := ⟨rfl, rfl, Un.rf _ _ _, Un.rf _ _ _, Un.rf _ _ _⟩
theorem Sq.trans {h h1 h2 : AH} {r dr : Nat} (a : Sq h h1 r dr) (b : Sq h1 h2 r dr) : Sq h h2 r dr := ⟨b.1.trans a.1, b.2.1.trans a.2.1, a.2.2.1.trans b.2.2.1, a.2.2.2.1.trans b.2.2.2.1, a.2.2.2.2.trans (b.2.2.2.2.sub (Nat.le_refl _) (by rw [a.1]; exact Nat.le_refl _))⟩
theorem Sq.setR {h h1 : AH} {r dr : Nat} {c : AC} (a : Sq h h1 r dr) (e : r < dr) : Sq h (hset h1 r c) r dr := ⟨a.1, a.2.1, Un.set a.2.2.1 (by omega), Un.set a.2.2.2.1 (by omega), Un.set a.2.2.2.2 (by omega)⟩
theorem Sq.dr {h h1 h2 : AH} {r dr : Nat} (a : Sq h h1 r dr) (sm : Sm h1 h2 dr (dr + 58)) (e : r < dr) : Sq h h2 r dr := ⟨sm.1.trans a.1, sm.2.1.trans a.2.1, a.2.2.1.trans (sm.2.2.1.sub (Nat.le_refl _) (by omega)), a.2.2.2.1.trans (sm.2.2.1.sub (by omega) (Nat.le_refl _)), a.2.2.2.2.trans (sm.2.2.2.sub (Nat.le_refl _) (by rw [a.1]; exact Nat.le_refl _))⟩
/-- the error's token, or what lay there before -/
def etI (x : Int32) (er et : Nat) : Int32 := if er = 0 then x else nI et
/-- the reader -/
def Rc (h0 h : AH) (r dr : Nat) (K : TKS) (s : PST) : Prop := (∃ ea : Int32 × Int32, At h r (ReaO r dr (nI (pPo s)) (kdP K s) (nI (pEr s)) (etI ea.2 (pEr s) (pEt s)) ea.1)) ∧ TkX h (r + 1) K ∧ BoX h dr (pDf s) ∧ Sq h0 h r dr ∧ pPo s ≤ 401 ∧ pEr s ≤ 5 ∧ r + 5 ≤ dr ∧ pEt s ≤ 401
theorem kdP_lt {h0 h : AH} {r dr : Nat} {K : TKS} {s : PST} (rc : Rc h0 h r dr K s) : kdP K s < 43 := by
  unfold kdP
  split
  · decide
  · exact rc.2.1.kd _
theorem upP_e {f : DRF → DRF} {s : PST} (e : pEr s = 0) : upP f s = (pPo s, pEr s, pEt s, f (pDf s)) := if_pos e
theorem upP_n {f : DRF → DRF} {s : PST} (e : ¬ pEr s = 0) : upP f s = s := if_neg e
theorem kdP_up {K : TKS} {f : DRF → DRF} {s : PST} : kdP K (upP f s) = kdP K s := by
  by_cases e : pEr s = 0
  · rw [upP_e e]
    rfl
  · rw [upP_n e]
theorem Rc.up {h0 h h1 : AH} {r dr : Nat} {K : TKS} {s : PST} {f : DRF → DRF} (rc : Rc h0 h r dr K s) (e : pEr s = 0) (bx : BoX h1 dr (f (pDf s))) (sm : Sm h h1 dr (dr + 58)) : Rc h0 h1 r dr K (upP f s) := by
  obtain ⟨⟨ea, a⟩, tx, -, sq, l1, l2, l3, l4⟩ := rc
  rw [upP_e e]
  exact ⟨⟨ea, sm.at a (by omega)⟩, tx.sm sm (by omega), bx, sq.dr sm (by omega), l1, l2, l3, l4⟩
theorem Rc.no {h0 h : AH} {r dr : Nat} {K : TKS} {s : PST} {f : DRF → DRF} (rc : Rc h0 h r dr K s) (e : ¬ pEr s = 0) : Rc h0 h r dr K (upP f s) := by
  rw [upP_n e]
  exact rc
/-- what the class has not -/
theorem Rc.inv {h0 h : AH} {r dr : Nat} {K : TKS} {s : PST} {f : DRF → DRF} (rc : Rc h0 h r dr K s) (hf : BoX h dr (pDf s) → BoX h dr (f (pDf s))) : Rc h0 h r dr K (upP f s) := by
  by_cases e : pEr s = 0
  · exact rc.up e (hf rc.2.2.1) (Sm.rf _ _ _)
  · exact rc.no e
theorem Rc.nod {h0 h : AH} {r dr : Nat} {K : TKS} {s : PST} {so l q : Nat} (rc : Rc h0 h r dr K s) : Rc h0 h r dr K (noP so l q s) := rc.inv (fun b => b.no)
theorem Rc.room {h0 h : AH} {r dr : Nat} {K : TKS} {s : PST} (rc : Rc h0 h r dr K s) : dr + 58 ≤ h.1 := rc.2.2.1.room
section REA
variable {G : GT} {d : Nat} {h h0 : AH} {r dr : Nat} {K : TKS} {s : PST}

set_option maxHeartbeats 4000000 in
set_option maxRecDepth 100000 in
theorem s_rtake (hd : 1 ≤ d) (rc : Rc h0 h r dr K s) {w : Nat} (hw : w < 43) (hbad : w ≠ 42) : RQ G mX6_take d 0 [some (.ref r), some (.ref (OLD + w))] [] h (Rv fun h1 => Rc h0 h1 r dr K (tkP K w s)) := by
  obtain ⟨⟨ea, a0⟩, tx, bx, sq, l1, l2, l3, l4⟩ := id rc
  have z0 := a0.1
  have b0 := bx.1
  have t0 := tx.1
  have hk43 := kdP_lt rc
  refine tX6_take_0  (r := ?_)
  refine tX6_take_1 (ha := (by first | assumption | (repeat (first | assumption | exact At.set_eq2 (by first | omega | (simp only [hset, hnew]; omega) | rfl | decide) | exact At.new_eq2 _ _ (by first | omega | (simp only [hset, hnew]; omega) | rfl | decide) | refine At.set_ne ?_ (by first | omega | (simp only [hset, hnew]; omega) | rfl | decide) | refine At.new_ne ?_)))) (hv := rfl) (r := ?_)
  refine tX6_take_4  (r := ?_)
  refine tX6_take_5  (kt := fun c_5 => ?_) (kf := fun c_5 => ?_)
  · have e1 : ¬ pEr s = 1 := fun z => c_5 (by rw [z])
    refine tX6_take_9  (r := ?_)
    refine tX6_take_10 (ha := (by first | assumption | (repeat (first | assumption | exact At.set_eq2 (by first | omega | (simp only [hset, hnew]; omega) | rfl | decide) | exact At.new_eq2 _ _ (by first | omega | (simp only [hset, hnew]; omega) | rfl | decide) | refine At.set_ne ?_ (by first | omega | (simp only [hset, hnew]; omega) | rfl | decide) | refine At.new_ne ?_)))) (hv := rfl) (r := ?_)
    refine tX6_take_13  (r := ?_)
    refine tX6_take_14 (hi := hk43) (hj := hw) (kt := fun c_14 => ?_) (kf := fun c_14 => ?_)
    · have e : tkP K w s = (pPo s, 1, pPo s, pDf s) := by
        unfold tkP
        rw [if_neg e1, if_neg c_14]
      rw [e]
      refine tX6_take_45  (r := ?_)
      refine tX6_take_46  (r := ?_)
      refine tX6_take_47 (ha := (by first | assumption | (repeat (first | assumption | exact At.set_eq2 (by first | omega | (simp only [hset, hnew]; omega) | rfl | decide) | exact At.new_eq2 _ _ (by first | omega | (simp only [hset, hnew]; omega) | rfl | decide) | refine At.set_ne ?_ (by first | omega | (simp only [hset, hnew]; omega) | rfl | decide) | refine At.new_ne ?_)))) (hlen := rfl) (r := ?_)
      refine tX6_take_50  (r := ?_)
      refine tX6_take_51  (r := ?_)
      refine tX6_take_52 (ha := (by first | assumption | (repeat (first | assumption | exact At.set_eq2 (by first | omega | (simp only [hset, hnew]; omega) | rfl | decide) | exact At.new_eq2 _ _ (by first | omega | (simp only [hset, hnew]; omega) | rfl | decide) | refine At.set_ne ?_ (by first | omega | (simp only [hset, hnew]; omega) | rfl | decide) | refine At.new_ne ?_)))) (hv := rfl) (r := ?_)
      refine tX6_take_55 (ha := (by first | assumption | (repeat (first | assumption | exact At.set_eq2 (by first | omega | (simp only [hset, hnew]; omega) | rfl | decide) | exact At.new_eq2 _ _ (by first | omega | (simp only [hset, hnew]; omega) | rfl | decide) | refine At.set_ne ?_ (by first | omega | (simp only [hset, hnew]; omega) | rfl | decide) | refine At.new_ne ?_)))) (hlen := rfl) (r := ?_)
      refine tX6_take_58  (r := ?_)
      refine tX6_take_59  (r := ?_)
      refine tX6_take_62 (ha := (by first | assumption | (repeat (first | assumption | exact At.set_eq2 (by first | omega | (simp only [hset, hnew]; omega) | rfl | decide) | exact At.new_eq2 _ _ (by first | omega | (simp only [hset, hnew]; omega) | rfl | decide) | refine At.set_ne ?_ (by first | omega | (simp only [hset, hnew]; omega) | rfl | decide) | refine At.new_ne ?_)))) (hlen := rfl) (r := ?_)
      refine tX6_take_65  (hP := ?_)
      exact ⟨rfl, ⟨ea, At.set_eq2 z0⟩, tx.sm (((Sm.rf h r (r + 1)).set (by omega) (by omega)).set (by omega) (by omega) |>.set (by omega) (by omega)) (by omega), bx.sm (((Sm.rf h r (r + 1)).set (by omega) (by omega)).set (by omega) (by omega) |>.set (by omega) (by omega)) (by omega), ((sq.setR (by omega)).setR (by omega)).setR (by omega), l1, (by decide : 1 ≤ 5), l3, l1⟩
    · have e : tkP K w s = (pPo s + 1, pEr s, pEt s, pDf s) := by
        unfold tkP
        rw [if_neg e1, if_pos c_14]
      rw [e]
      refine tX6_take_17  (r := ?_)
      refine tX6_take_18  (r := ?_)
      refine tX6_take_19 (ha := (by first | assumption | (repeat (first | assumption | exact At.set_eq2 (by first | omega | (simp only [hset, hnew]; omega) | rfl | decide) | exact At.new_eq2 _ _ (by first | omega | (simp only [hset, hnew]; omega) | rfl | decide) | refine At.set_ne ?_ (by first | omega | (simp only [hset, hnew]; omega) | rfl | decide) | refine At.new_ne ?_)))) (hv := rfl) (r := ?_)
      refine tX6_take_22  (r := ?_)
      refine tX6_take_23  (r := ?_)
      rw [nI_add]
      have pl : pPo s < 401 := by
        refine Nat.lt_of_not_le (fun z => ?_)
        have k42 : kdP K s = 42 := by
          unfold kdP kdT
          rw [if_neg e1, if_neg (by have := tx.2.2.2.2; omega)]
        exact hbad (by omega)
      refine tX6_take_24 (ha := (by first | assumption | (repeat (first | assumption | exact At.set_eq2 (by first | omega | (simp only [hset, hnew]; omega) | rfl | decide) | exact At.new_eq2 _ _ (by first | omega | (simp only [hset, hnew]; omega) | rfl | decide) | refine At.set_ne ?_ (by first | omega | (simp only [hset, hnew]; omega) | rfl | decide) | refine At.new_ne ?_)))) (hlen := rfl) (r := ?_)
      refine tX6_take_27  (r := ?_)
      refine tX6_take_28  (r := ?_)
      refine tX6_take_29 (ha := (by first | assumption | (repeat (first | assumption | exact At.set_eq2 (by first | omega | (simp only [hset, hnew]; omega) | rfl | decide) | exact At.new_eq2 _ _ (by first | omega | (simp only [hset, hnew]; omega) | rfl | decide) | refine At.set_ne ?_ (by first | omega | (simp only [hset, hnew]; omega) | rfl | decide) | refine At.new_ne ?_)))) (hv := rfl) (r := ?_)
      refine tX6_take_32  (r := ?_)
      refine tX6_take_33 (ha := (by first | assumption | (repeat (first | assumption | exact At.set_eq2 (by first | omega | (simp only [hset, hnew]; omega) | rfl | decide) | exact At.new_eq2 _ _ (by first | omega | (simp only [hset, hnew]; omega) | rfl | decide) | refine At.set_ne ?_ (by first | omega | (simp only [hset, hnew]; omega) | rfl | decide) | refine At.new_ne ?_)))) (hv := rfl) (r := ?_)
      refine tX6_take_36 (hd := (by omega)) (ha := (by first | assumption | (repeat (first | assumption | exact At.set_eq2 (by first | omega | (simp only [hset, hnew]; omega) | rfl | decide) | exact At.new_eq2 _ _ (by first | omega | (simp only [hset, hnew]; omega) | rfl | decide) | refine At.set_ne ?_ (by first | omega | (simp only [hset, hnew]; omega) | rfl | decide) | refine At.new_ne ?_)))) (call := s_tkKind (d := 0) (tx.sm ((Sm.rf h r (r + 1)).set (by omega) (by omega)) (by omega)) (by omega)) (k := ?_)
      rintro x_ h_ ⟨hx_, e_⟩
      rw [e_, hx_]
      refine tX6_take_39 (ha := (by first | assumption | (repeat (first | assumption | exact At.set_eq2 (by first | omega | (simp only [hset, hnew]; omega) | rfl | decide) | exact At.new_eq2 _ _ (by first | omega | (simp only [hset, hnew]; omega) | rfl | decide) | refine At.set_ne ?_ (by first | omega | (simp only [hset, hnew]; omega) | rfl | decide) | refine At.new_ne ?_)))) (hlen := rfl) (r := ?_)
      refine tX6_take_42 (r := ?_)
      refine tX6_take_65  (hP := ?_)
      have ek : kdP K (pPo s + 1, pEr s, pEt s, pDf s) = kdT K (pPo s + 1) := if_neg e1
      refine ⟨rfl, ⟨ea, ?_⟩, tx.sm (((Sm.rf h r (r + 1)).set (by omega) (by omega)).set (by omega) (by omega)) (by omega), bx.sm (((Sm.rf h r (r + 1)).set (by omega) (by omega)).set (by omega) (by omega)) (by omega), (sq.setR (by omega)).setR (by omega), pl, l2, l3, l4⟩
      rw [ek]
      exact At.set_eq2 z0
  · have e1 : pEr s = 1 := by simp (disch := omega) only [show (1 : Int32) = nI 1 from rfl, ci_eq] at c_5; omega
    have e : tkP K w s = s := if_pos e1
    rw [e]
    refine tX6_take_8  (hP := ?_)
    exact ⟨rfl, rc⟩

set_option maxHeartbeats 4000000 in
set_option maxRecDepth 100000 in
theorem s_rrep (rc : Rc h0 h r dr K s) {n : Nat} (hn : n ≤ 5 ∧ 2 ≤ n) : RQ G mX6_report d 0 [some (.ref r), some (.int (nI n))] [] h (Rv fun h1 => Rc h0 h1 r dr K (rpP n s)) := by
  obtain ⟨⟨ea, a0⟩, tx, bx, sq, l1, l2, l3, l4⟩ := id rc
  have z0 := a0.1
  have b0 := bx.1
  have t0 := tx.1
  have hk43 := kdP_lt rc
  refine tX6_report_0  (r := ?_)
  refine tX6_report_1 (ha := (by first | assumption | (repeat (first | assumption | exact At.set_eq2 (by first | omega | (simp only [hset, hnew]; omega) | rfl | decide) | exact At.new_eq2 _ _ (by first | omega | (simp only [hset, hnew]; omega) | rfl | decide) | refine At.set_ne ?_ (by first | omega | (simp only [hset, hnew]; omega) | rfl | decide) | refine At.new_ne ?_)))) (hv := rfl) (r := ?_)
  refine tX6_report_4  (kt := fun c_4 => ?_) (kf := fun c_4 => ?_)
  · have e0 : ¬ pEr s = 0 := fun z => c_4 (by rw [z]; rfl)
    have e : rpP n s = s := if_neg e0
    rw [e]
    refine tX6_report_20  (hP := ?_)
    exact ⟨rfl, rc⟩
  · have e0 : pEr s = 0 := by simp (disch := omega) only [ci_eq0] at c_4; omega
    have e : rpP n s = (pPo s, n, pPo s, pDf s) := if_pos e0
    rw [e]
    refine tX6_report_7  (r := ?_)
    refine tX6_report_8  (r := ?_)
    refine tX6_report_9 (ha := (by first | assumption | (repeat (first | assumption | exact At.set_eq2 (by first | omega | (simp only [hset, hnew]; omega) | rfl | decide) | exact At.new_eq2 _ _ (by first | omega | (simp only [hset, hnew]; omega) | rfl | decide) | refine At.set_ne ?_ (by first | omega | (simp only [hset, hnew]; omega) | rfl | decide) | refine At.new_ne ?_)))) (hlen := rfl) (r := ?_)
    refine tX6_report_12  (r := ?_)
    refine tX6_report_13  (r := ?_)
    refine tX6_report_14 (ha := (by first | assumption | (repeat (first | assumption | exact At.set_eq2 (by first | omega | (simp only [hset, hnew]; omega) | rfl | decide) | exact At.new_eq2 _ _ (by first | omega | (simp only [hset, hnew]; omega) | rfl | decide) | refine At.set_ne ?_ (by first | omega | (simp only [hset, hnew]; omega) | rfl | decide) | refine At.new_ne ?_)))) (hv := rfl) (r := ?_)
    refine tX6_report_17 (ha := (by first | assumption | (repeat (first | assumption | exact At.set_eq2 (by first | omega | (simp only [hset, hnew]; omega) | rfl | decide) | exact At.new_eq2 _ _ (by first | omega | (simp only [hset, hnew]; omega) | rfl | decide) | refine At.set_ne ?_ (by first | omega | (simp only [hset, hnew]; omega) | rfl | decide) | refine At.new_ne ?_)))) (hlen := rfl) (r := ?_)
    refine tX6_report_20  (hP := ?_)
    have ek : kdP K (pPo s, n, pPo s, pDf s) = kdP K s := by
      unfold kdP
      rw [if_neg (show ¬ n = 1 by omega), if_neg (show ¬ pEr s = 1 by omega)]
    refine ⟨rfl, ⟨ea, ?_⟩, tx.sm (((Sm.rf h r (r + 1)).set (by omega) (by omega)).set (by omega) (by omega)) (by omega), bx.sm (((Sm.rf h r (r + 1)).set (by omega) (by omega)).set (by omega) (by omega)) (by omega), (sq.setR (by omega)).setR (by omega), l1, hn.1, l3, l1⟩
    rw [ek, show etI ea.2 (pEr (pPo s, n, pPo s, pDf s)) (pEt (pPo s, n, pPo s, pDf s)) = nI (pPo s) from if_neg (show ¬ n = 0 by omega)]
    exact At.set_eq2 z0

set_option maxHeartbeats 4000000 in
set_option maxRecDepth 100000 in
theorem s_rstep (hd : 1 ≤ d) (rc : Rc h0 h r dr K s) {w n : Nat} (hw : w < 43) : RQ G mX6_step d 0 [some (.ref r), some (.ref (OLD + w)), some (.int (nI n))] [] h (Rv fun h1 => Rc h0 h1 r dr K (stP w n s)) := by
  obtain ⟨⟨ea, a0⟩, tx, bx, sq, l1, l2, l3, l4⟩ := id rc
  have z0 := a0.1
  have b0 := bx.1
  have t0 := tx.1
  have hk43 := kdP_lt rc
  have s0 := bx.2.2.2.2.2.2.2.2.1.1
  refine tX6_step_0  (r := ?_)
  refine tX6_step_1 (ha := (by first | assumption | (repeat (first | assumption | exact At.set_eq2 (by first | omega | (simp only [hset, hnew]; omega) | rfl | decide) | exact At.new_eq2 _ _ (by first | omega | (simp only [hset, hnew]; omega) | rfl | decide) | refine At.set_ne ?_ (by first | omega | (simp only [hset, hnew]; omega) | rfl | decide) | refine At.new_ne ?_)))) (hv := rfl) (r := ?_)
  refine tX6_step_4  (kt := fun c_4 => ?_) (kf := fun c_4 => ?_)
  · have e0 : ¬ pEr s = 0 := fun z => c_4 (by rw [z]; rfl)
    refine tX6_step_19  (hP := ?_)
    exact ⟨rfl, rc.no e0⟩
  · have e0 : pEr s = 0 := by simp (disch := omega) only [ci_eq0] at c_4; omega
    refine tX6_step_7  (r := ?_)
    refine tX6_step_8 (ha := (by first | assumption | (repeat (first | assumption | exact At.set_eq2 (by first | omega | (simp only [hset, hnew]; omega) | rfl | decide) | exact At.new_eq2 _ _ (by first | omega | (simp only [hset, hnew]; omega) | rfl | decide) | refine At.set_ne ?_ (by first | omega | (simp only [hset, hnew]; omega) | rfl | decide) | refine At.new_ne ?_)))) (hv := rfl) (r := ?_)
    refine tX6_step_11 (ha := (by first | assumption | (repeat (first | assumption | exact At.set_eq2 (by first | omega | (simp only [hset, hnew]; omega) | rfl | decide) | exact At.new_eq2 _ _ (by first | omega | (simp only [hset, hnew]; omega) | rfl | decide) | refine At.set_ne ?_ (by first | omega | (simp only [hset, hnew]; omega) | rfl | decide) | refine At.new_ne ?_)))) (hv := rfl) (r := ?_)
    refine tX6_step_14  (r := ?_)
    refine tX6_step_15  (r := ?_)
    refine tX6_step_16 (hd := (by omega)) (ha := (by first | assumption | (repeat (first | assumption | exact At.set_eq2 (by first | omega | (simp only [hset, hnew]; omega) | rfl | decide) | exact At.new_eq2 _ _ (by first | omega | (simp only [hset, hnew]; omega) | rfl | decide) | refine At.set_ne ?_ (by first | omega | (simp only [hset, hnew]; omega) | rfl | decide) | refine At.new_ne ?_)))) (call := s_xadd (d := 0) bx hw) (k := ?_)
    intro h1 hq
    obtain ⟨bx1, sm1⟩ := hq
    refine tX6_step_19  (hP := ?_)
    exact ⟨rfl, rc.up e0 bx1 sm1⟩

set_option maxHeartbeats 4000000 in
set_option maxRecDepth 100000 in
theorem s_rlab (hd : 1 ≤ d) (rc : Rc h0 h r dr K s) : RQ G mX6_labelHere d 0 [some (.ref r), none] [] h (Ri fun v h1 => v = oI (lbO K s) ∧ Rc h0 h1 r dr K (laP K s)) := by
  obtain ⟨⟨ea, a0⟩, tx, bx, sq, l1, l2, l3, l4⟩ := id rc
  have z0 := a0.1
  have b0 := bx.1
  have t0 := tx.1
  have hk43 := kdP_lt rc
  have hvv := tx.vv (pPo s)
  refine tX6_labelHere_0  (r := ?_)
  refine tX6_labelHere_1 (ha := (by first | assumption | (repeat (first | assumption | exact At.set_eq2 (by first | omega | (simp only [hset, hnew]; omega) | rfl | decide) | exact At.new_eq2 _ _ (by first | omega | (simp only [hset, hnew]; omega) | rfl | decide) | refine At.set_ne ?_ (by first | omega | (simp only [hset, hnew]; omega) | rfl | decide) | refine At.new_ne ?_)))) (hv := rfl) (r := ?_)
  refine tX6_labelHere_4 (ha := (by first | assumption | (repeat (first | assumption | exact At.set_eq2 (by first | omega | (simp only [hset, hnew]; omega) | rfl | decide) | exact At.new_eq2 _ _ (by first | omega | (simp only [hset, hnew]; omega) | rfl | decide) | refine At.set_ne ?_ (by first | omega | (simp only [hset, hnew]; omega) | rfl | decide) | refine At.new_ne ?_)))) (hv := rfl) (r := ?_)
  refine tX6_labelHere_7  (r := ?_)
  refine tX6_labelHere_8 (ha := (by first | assumption | (repeat (first | assumption | exact At.set_eq2 (by first | omega | (simp only [hset, hnew]; omega) | rfl | decide) | exact At.new_eq2 _ _ (by first | omega | (simp only [hset, hnew]; omega) | rfl | decide) | refine At.set_ne ?_ (by first | omega | (simp only [hset, hnew]; omega) | rfl | decide) | refine At.new_ne ?_)))) (hv := rfl) (r := ?_)
  refine tX6_labelHere_11 (ha := (by first | assumption | (repeat (first | assumption | exact At.set_eq2 (by first | omega | (simp only [hset, hnew]; omega) | rfl | decide) | exact At.new_eq2 _ _ (by first | omega | (simp only [hset, hnew]; omega) | rfl | decide) | refine At.set_ne ?_ (by first | omega | (simp only [hset, hnew]; omega) | rfl | decide) | refine At.new_ne ?_)))) (hv := rfl) (r := ?_)
  refine tX6_labelHere_14  (r := ?_)
  refine tX6_labelHere_15 (ha := (by first | assumption | (repeat (first | assumption | exact At.set_eq2 (by first | omega | (simp only [hset, hnew]; omega) | rfl | decide) | exact At.new_eq2 _ _ (by first | omega | (simp only [hset, hnew]; omega) | rfl | decide) | refine At.set_ne ?_ (by first | omega | (simp only [hset, hnew]; omega) | rfl | decide) | refine At.new_ne ?_)))) (hv := rfl) (r := ?_)
  refine tX6_labelHere_18  (r := ?_)
  refine tX6_labelHere_19 (ha := (by first | assumption | (repeat (first | assumption | exact At.set_eq2 (by first | omega | (simp only [hset, hnew]; omega) | rfl | decide) | exact At.new_eq2 _ _ (by first | omega | (simp only [hset, hnew]; omega) | rfl | decide) | refine At.set_ne ?_ (by first | omega | (simp only [hset, hnew]; omega) | rfl | decide) | refine At.new_ne ?_)))) (hv := rfl) (r := ?_)
  refine tX6_labelHere_22 (hd := (by omega)) (ha := (by first | assumption | (repeat (first | assumption | exact At.set_eq2 (by first | omega | (simp only [hset, hnew]; omega) | rfl | decide) | exact At.new_eq2 _ _ (by first | omega | (simp only [hset, hnew]; omega) | rfl | decide) | refine At.set_ne ?_ (by first | omega | (simp only [hset, hnew]; omega) | rfl | decide) | refine At.new_ne ?_)))) (call := s_tkValue (d := 0) tx (by omega)) (k := ?_)
  rintro x_ h_ ⟨hx_, e_⟩
  rw [e_, hx_]
  refine tX6_labelHere_25 (hd := (by omega)) (call := s_find (d := 0) bx.2.1 bx.2.2.2.2.2.2.2.2.2.1 (by decide) hvv) (k := ?_)
  rintro x_ h_ ⟨hx_, e_⟩
  rw [e_, hx_]
  have I1 : (oI (lbO K s) = -1) ↔ lbO K s = none := oI_ne (fun k e => Nat.lt_of_lt_of_le (fnN_lt k e) (Nat.le_trans bx.2.2.2.2.2.2.2.2.2.1 (by decide)))
  refine tX6_labelHere_28  (r := ?_)
  refine tX6_labelHere_29  (r := ?_)
  refine tX6_labelHere_30  (r := ?_)
  refine tX6_labelHere_31  (kt := fun c_31 => ?_) (kf := fun c_31 => ?_)
  · have e1 : ¬ lbO K s = none := fun z => c_31 (I1.mpr z)
    refine tX6_labelHere_39  (r := ?_)
    refine tX6_labelHere_40  (hP := ?_)
    exact ⟨_, rfl, rfl, by unfold laP rpO; rw [if_neg e1]; exact rc⟩
  · have e1 : lbO K s = none := I1.mp c_31
    refine tX6_labelHere_34  (r := ?_)
    refine tX6_labelHere_35  (r := ?_)
    refine tX6_labelHere_36 (hd := (by omega)) (ha := (by first | assumption | (repeat (first | assumption | exact At.set_eq2 (by first | omega | (simp only [hset, hnew]; omega) | rfl | decide) | exact At.new_eq2 _ _ (by first | omega | (simp only [hset, hnew]; omega) | rfl | decide) | refine At.set_ne ?_ (by first | omega | (simp only [hset, hnew]; omega) | rfl | decide) | refine At.new_ne ?_)))) (call := s_rrep (d := 0) rc (n := 3) (by decide)) (k := ?_)
    intro h1 rc1
    refine tX6_labelHere_39  (r := ?_)
    refine tX6_labelHere_40  (hP := ?_)
    exact ⟨_, rfl, rfl, by unfold laP rpO; rw [if_pos e1]; exact rc1⟩

set_option maxHeartbeats 4000000 in
set_option maxRecDepth 100000 in
theorem s_rjar (hd : 1 ≤ d) (rc : Rc h0 h r dr K s) : RQ G mX6_jarHere d 0 [some (.ref r), none] [] h (Ri fun v h1 => v = oI (jbO K s) ∧ Rc h0 h1 r dr K (jaP K s)) := by
  obtain ⟨⟨ea, a0⟩, tx, bx, sq, l1, l2, l3, l4⟩ := id rc
  have z0 := a0.1
  have b0 := bx.1
  have t0 := tx.1
  have hk43 := kdP_lt rc
  have hvv := tx.vv (pPo s)
  refine tX6_jarHere_0  (r := ?_)
  refine tX6_jarHere_1 (ha := (by first | assumption | (repeat (first | assumption | exact At.set_eq2 (by first | omega | (simp only [hset, hnew]; omega) | rfl | decide) | exact At.new_eq2 _ _ (by first | omega | (simp only [hset, hnew]; omega) | rfl | decide) | refine At.set_ne ?_ (by first | omega | (simp only [hset, hnew]; omega) | rfl | decide) | refine At.new_ne ?_)))) (hv := rfl) (r := ?_)
  refine tX6_jarHere_4 (ha := (by first | assumption | (repeat (first | assumption | exact At.set_eq2 (by first | omega | (simp only [hset, hnew]; omega) | rfl | decide) | exact At.new_eq2 _ _ (by first | omega | (simp only [hset, hnew]; omega) | rfl | decide) | refine At.set_ne ?_ (by first | omega | (simp only [hset, hnew]; omega) | rfl | decide) | refine At.new_ne ?_)))) (hv := rfl) (r := ?_)
  refine tX6_jarHere_7  (r := ?_)
  refine tX6_jarHere_8 (ha := (by first | assumption | (repeat (first | assumption | exact At.set_eq2 (by first | omega | (simp only [hset, hnew]; omega) | rfl | decide) | exact At.new_eq2 _ _ (by first | omega | (simp only [hset, hnew]; omega) | rfl | decide) | refine At.set_ne ?_ (by first | omega | (simp only [hset, hnew]; omega) | rfl | decide) | refine At.new_ne ?_)))) (hv := rfl) (r := ?_)
  refine tX6_jarHere_11 (ha := (by first | assumption | (repeat (first | assumption | exact At.set_eq2 (by first | omega | (simp only [hset, hnew]; omega) | rfl | decide) | exact At.new_eq2 _ _ (by first | omega | (simp only [hset, hnew]; omega) | rfl | decide) | refine At.set_ne ?_ (by first | omega | (simp only [hset, hnew]; omega) | rfl | decide) | refine At.new_ne ?_)))) (hv := rfl) (r := ?_)
  refine tX6_jarHere_14  (r := ?_)
  refine tX6_jarHere_15 (ha := (by first | assumption | (repeat (first | assumption | exact At.set_eq2 (by first | omega | (simp only [hset, hnew]; omega) | rfl | decide) | exact At.new_eq2 _ _ (by first | omega | (simp only [hset, hnew]; omega) | rfl | decide) | refine At.set_ne ?_ (by first | omega | (simp only [hset, hnew]; omega) | rfl | decide) | refine At.new_ne ?_)))) (hv := rfl) (r := ?_)
  refine tX6_jarHere_18  (r := ?_)
  refine tX6_jarHere_19 (ha := (by first | assumption | (repeat (first | assumption | exact At.set_eq2 (by first | omega | (simp only [hset, hnew]; omega) | rfl | decide) | exact At.new_eq2 _ _ (by first | omega | (simp only [hset, hnew]; omega) | rfl | decide) | refine At.set_ne ?_ (by first | omega | (simp only [hset, hnew]; omega) | rfl | decide) | refine At.new_ne ?_)))) (hv := rfl) (r := ?_)
  refine tX6_jarHere_22 (hd := (by omega)) (ha := (by first | assumption | (repeat (first | assumption | exact At.set_eq2 (by first | omega | (simp only [hset, hnew]; omega) | rfl | decide) | exact At.new_eq2 _ _ (by first | omega | (simp only [hset, hnew]; omega) | rfl | decide) | refine At.set_ne ?_ (by first | omega | (simp only [hset, hnew]; omega) | rfl | decide) | refine At.new_ne ?_)))) (call := s_tkValue (d := 0) tx (by omega)) (k := ?_)
  rintro x_ h_ ⟨hx_, e_⟩
  rw [e_, hx_]
  refine tX6_jarHere_25 (hd := (by omega)) (call := s_find (d := 0) bx.2.2.1 bx.2.2.2.2.2.2.2.2.2.2.1 (by decide) hvv) (k := ?_)
  rintro x_ h_ ⟨hx_, e_⟩
  rw [e_, hx_]
  have I1 : (oI (jbO K s) = -1) ↔ jbO K s = none := oI_ne (fun k e => Nat.lt_of_lt_of_le (fnN_lt k e) (Nat.le_trans bx.2.2.2.2.2.2.2.2.2.2.1 (by decide)))
  refine tX6_jarHere_28  (r := ?_)
  refine tX6_jarHere_29  (r := ?_)
  refine tX6_jarHere_30  (r := ?_)
  refine tX6_jarHere_31  (kt := fun c_31 => ?_) (kf := fun c_31 => ?_)
  · have e1 : ¬ jbO K s = none := fun z => c_31 (I1.mpr z)
    refine tX6_jarHere_39  (r := ?_)
    refine tX6_jarHere_40  (hP := ?_)
    exact ⟨_, rfl, rfl, by unfold jaP rpO; rw [if_neg e1]; exact rc⟩
  · have e1 : jbO K s = none := I1.mp c_31
    refine tX6_jarHere_34  (r := ?_)
    refine tX6_jarHere_35  (r := ?_)
    refine tX6_jarHere_36 (hd := (by omega)) (ha := (by first | assumption | (repeat (first | assumption | exact At.set_eq2 (by first | omega | (simp only [hset, hnew]; omega) | rfl | decide) | exact At.new_eq2 _ _ (by first | omega | (simp only [hset, hnew]; omega) | rfl | decide) | refine At.set_ne ?_ (by first | omega | (simp only [hset, hnew]; omega) | rfl | decide) | refine At.new_ne ?_)))) (call := s_rrep (d := 0) rc (n := 3) (by decide)) (k := ?_)
    intro h1 rc1
    refine tX6_jarHere_39  (r := ?_)
    refine tX6_jarHere_40  (hP := ?_)
    exact ⟨_, rfl, rfl, by unfold jaP rpO; rw [if_pos e1]; exact rc1⟩

set_option maxHeartbeats 4000000 in
set_option maxRecDepth 100000 in
theorem s_rnew (hd : 2 ≤ d) (rc : Rc h0 h r dr K s) {f : Bool} : RQ G mX6_lookAtNewName d 0 [some (.ref r), some (.int (if f = true then nI 1 else nI 0))] [] h (Rv fun h1 => Rc h0 h1 r dr K (nwP K f s)) := by
  obtain ⟨⟨ea, a0⟩, tx, bx, sq, l1, l2, l3, l4⟩ := id rc
  have z0 := a0.1
  have b0 := bx.1
  have t0 := tx.1
  have hk43 := kdP_lt rc
  have hvv := tx.vv (pPo s)
  refine tX6_lookAtNewName_0  (r := ?_)
  refine tX6_lookAtNewName_1 (ha := (by first | assumption | (repeat (first | assumption | exact At.set_eq2 (by first | omega | (simp only [hset, hnew]; omega) | rfl | decide) | exact At.new_eq2 _ _ (by first | omega | (simp only [hset, hnew]; omega) | rfl | decide) | refine At.set_ne ?_ (by first | omega | (simp only [hset, hnew]; omega) | rfl | decide) | refine At.new_ne ?_)))) (hv := rfl) (r := ?_)
  refine tX6_lookAtNewName_4  (r := ?_)
  refine tX6_lookAtNewName_5 (ha := (by first | assumption | (repeat (first | assumption | exact At.set_eq2 (by first | omega | (simp only [hset, hnew]; omega) | rfl | decide) | exact At.new_eq2 _ _ (by first | omega | (simp only [hset, hnew]; omega) | rfl | decide) | refine At.set_ne ?_ (by first | omega | (simp only [hset, hnew]; omega) | rfl | decide) | refine At.new_ne ?_)))) (hv := rfl) (r := ?_)
  refine tX6_lookAtNewName_8  (r := ?_)
  refine tX6_lookAtNewName_9 (ha := (by first | assumption | (repeat (first | assumption | exact At.set_eq2 (by first | omega | (simp only [hset, hnew]; omega) | rfl | decide) | exact At.new_eq2 _ _ (by first | omega | (simp only [hset, hnew]; omega) | rfl | decide) | refine At.set_ne ?_ (by first | omega | (simp only [hset, hnew]; omega) | rfl | decide) | refine At.new_ne ?_)))) (hv := rfl) (r := ?_)
  refine tX6_lookAtNewName_12 (hd := (by omega)) (ha := (by first | assumption | (repeat (first | assumption | exact At.set_eq2 (by first | omega | (simp only [hset, hnew]; omega) | rfl | decide) | exact At.new_eq2 _ _ (by first | omega | (simp only [hset, hnew]; omega) | rfl | decide) | refine At.set_ne ?_ (by first | omega | (simp only [hset, hnew]; omega) | rfl | decide) | refine At.new_ne ?_)))) (call := s_tkValue (d := 0) tx (by omega)) (k := ?_)
  rintro x_ h_ ⟨hx_, e_⟩
  rw [e_, hx_]
  refine tX6_lookAtNewName_15 (hd := (by omega)) (ha := (by first | assumption | (repeat (first | assumption | exact At.set_eq2 (by first | omega | (simp only [hset, hnew]; omega) | rfl | decide) | exact At.new_eq2 _ _ (by first | omega | (simp only [hset, hnew]; omega) | rfl | decide) | refine At.set_ne ?_ (by first | omega | (simp only [hset, hnew]; omega) | rfl | decide) | refine At.new_ne ?_)))) (call := s_hasName (d := 1) (by decide) bx hvv) (k := ?_)
  rintro x_ h_ ⟨hx_, e_⟩
  rw [e_, hx_]
  refine (?_ : RQ _ _ _ _ _ (.int (if (lbO K s = none ∧ jbO K s = none ∧ ibO K s = none) then nI 0 else nI 1) :: _) _ _)
  refine tX6_lookAtNewName_18  (kt := fun c_18 => ?_) (kf := fun c_18 => ?_)
  · have e1 : (lbO K s = none ∧ jbO K s = none ∧ ibO K s = none) := Classical.byContradiction (fun z => by rw [if_neg z] at c_18; exact absurd c_18 (by decide))
    have e2 : (if (lbO K s = none ∧ jbO K s = none ∧ ibO K s = none) then s else rpP 2 s) = s := if_pos e1
    refine tX6_lookAtNewName_26  (r := ?_)
    refine tX6_lookAtNewName_27  (kt := fun c_27 => ?_) (kf := fun c_27 => ?_)
    · have f0 : ¬ f = true := fun z => by rw [if_pos z] at c_27; exact absurd c_27 (by decide)
      refine tX6_lookAtNewName_35  (hP := ?_)
      exact ⟨rfl, by unfold nwP; rw [if_neg f0, e2]; exact rc⟩
    · have f0 : f = true := Classical.byContradiction (fun z => by rw [if_neg z] at c_27; exact c_27 rfl)
      refine tX6_lookAtNewName_30  (r := ?_)
      refine tX6_lookAtNewName_31  (r := ?_)
      refine tX6_lookAtNewName_32 (hd := (by omega)) (ha := (by first | assumption | (repeat (first | assumption | exact At.set_eq2 (by first | omega | (simp only [hset, hnew]; omega) | rfl | decide) | exact At.new_eq2 _ _ (by first | omega | (simp only [hset, hnew]; omega) | rfl | decide) | refine At.set_ne ?_ (by first | omega | (simp only [hset, hnew]; omega) | rfl | decide) | refine At.new_ne ?_)))) (call := s_rrep (d := 0) rc (n := 4) (by decide)) (k := ?_)
      intro h1 rc1
      refine tX6_lookAtNewName_35  (hP := ?_)
      exact ⟨rfl, by unfold nwP; rw [if_pos f0, e2]; exact rc1⟩
  · have e1 : ¬ (lbO K s = none ∧ jbO K s = none ∧ ibO K s = none) := fun z => by rw [if_pos z] at c_18; exact c_18 rfl
    have e2 : (if (lbO K s = none ∧ jbO K s = none ∧ ibO K s = none) then s else rpP 2 s) = rpP 2 s := if_neg e1
    refine tX6_lookAtNewName_21  (r := ?_)
    refine tX6_lookAtNewName_22  (r := ?_)
    refine tX6_lookAtNewName_23 (hd := (by omega)) (ha := (by first | assumption | (repeat (first | assumption | exact At.set_eq2 (by first | omega | (simp only [hset, hnew]; omega) | rfl | decide) | exact At.new_eq2 _ _ (by first | omega | (simp only [hset, hnew]; omega) | rfl | decide) | refine At.set_ne ?_ (by first | omega | (simp only [hset, hnew]; omega) | rfl | decide) | refine At.new_ne ?_)))) (call := s_rrep (d := 0) rc (n := 2) (by decide)) (k := ?_)
    intro h1 rc1
    obtain ⟨⟨ea1, a1⟩, -⟩ := id rc1
    refine tX6_lookAtNewName_26  (r := ?_)
    refine tX6_lookAtNewName_27  (kt := fun c_27 => ?_) (kf := fun c_27 => ?_)
    · have f0 : ¬ f = true := fun z => by rw [if_pos z] at c_27; exact absurd c_27 (by decide)
      refine tX6_lookAtNewName_35  (hP := ?_)
      exact ⟨rfl, by unfold nwP; rw [if_neg f0, e2]; exact rc1⟩
    · have f0 : f = true := Classical.byContradiction (fun z => by rw [if_neg z] at c_27; exact c_27 rfl)
      refine tX6_lookAtNewName_30  (r := ?_)
      refine tX6_lookAtNewName_31  (r := ?_)
      refine tX6_lookAtNewName_32 (hd := (by omega)) (ha := (by first | assumption | (repeat (first | assumption | exact At.set_eq2 (by first | omega | (simp only [hset, hnew]; omega) | rfl | decide) | exact At.new_eq2 _ _ (by first | omega | (simp only [hset, hnew]; omega) | rfl | decide) | refine At.set_ne ?_ (by first | omega | (simp only [hset, hnew]; omega) | rfl | decide) | refine At.new_ne ?_)))) (call := s_rrep (d := 0) rc1 (n := 4) (by decide)) (k := ?_)
      intro h2 rc2
      refine tX6_lookAtNewName_35  (hP := ?_)
      exact ⟨rfl, by unfold nwP; rw [if_pos f0, e2]; exact rc2⟩

theorem nL_i32 (v : Nat) : (nL v).toInt32 = nI v := Int64.toInt32_ofNat

set_option maxHeartbeats 4000000 in
set_option maxRecDepth 100000 in
theorem s_rhold_36 (hd : 2 ≤ d) (rc : Rc h0 h r dr K s) {l v : Nat} (hl : l < 500) : RQ G mX6_hold d 36 [some (.ref r), some (.int (nI l)), some (.int (nI v))] [] h (Rv fun h1 => Rc h0 h1 r dr K (tkP K 40 (upP (beD l v) s))) := by
  obtain ⟨⟨ea, a0⟩, tx, bx, sq, l1, l2, l3, l4⟩ := id rc
  have z0 := a0.1
  have b0 := bx.1
  have t0 := tx.1
  have hk43 := kdP_lt rc
  refine tX6_hold_36  (r := ?_)
  refine tX6_hold_37 (ha := (by first | assumption | (repeat (first | assumption | exact At.set_eq2 (by first | omega | (simp only [hset, hnew]; omega) | rfl | decide) | exact At.new_eq2 _ _ (by first | omega | (simp only [hset, hnew]; omega) | rfl | decide) | refine At.set_ne ?_ (by first | omega | (simp only [hset, hnew]; omega) | rfl | decide) | refine At.new_ne ?_)))) (hv := rfl) (r := ?_)
  refine tX6_hold_40  (kt := fun c_40 => ?_) (kf := fun c_40 => ?_)
  · have e0 : ¬ pEr s = 0 := fun z => c_40 (by rw [z]; rfl)
    refine tX6_hold_52  (r := ?_)
    refine tX6_hold_53  (r := ?_)
    refine tX6_hold_56 (hd := (by omega)) (ha := (by first | assumption | (repeat (first | assumption | exact At.set_eq2 (by first | omega | (simp only [hset, hnew]; omega) | rfl | decide) | exact At.new_eq2 _ _ (by first | omega | (simp only [hset, hnew]; omega) | rfl | decide) | refine At.set_ne ?_ (by first | omega | (simp only [hset, hnew]; omega) | rfl | decide) | refine At.new_ne ?_)))) (call := s_rtake (d := 1) (by decide) (rc.no (f := beD l v) e0) (by decide) (by decide)) (k := ?_)
    intro h1 rc1
    refine tX6_hold_59  (hP := ?_)
    exact ⟨rfl, rc1⟩
  · have e0 : pEr s = 0 := by simp (disch := omega) only [ci_eq0] at c_40; omega
    refine tX6_hold_43  (r := ?_)
    refine tX6_hold_44 (ha := (by first | assumption | (repeat (first | assumption | exact At.set_eq2 (by first | omega | (simp only [hset, hnew]; omega) | rfl | decide) | exact At.new_eq2 _ _ (by first | omega | (simp only [hset, hnew]; omega) | rfl | decide) | refine At.set_ne ?_ (by first | omega | (simp only [hset, hnew]; omega) | rfl | decide) | refine At.new_ne ?_)))) (hv := rfl) (r := ?_)
    refine tX6_hold_47  (r := ?_)
    refine tX6_hold_48  (r := ?_)
    refine tX6_hold_49 (hd := (by omega)) (ha := (by first | assumption | (repeat (first | assumption | exact At.set_eq2 (by first | omega | (simp only [hset, hnew]; omega) | rfl | decide) | exact At.new_eq2 _ _ (by first | omega | (simp only [hset, hnew]; omega) | rfl | decide) | refine At.set_ne ?_ (by first | omega | (simp only [hset, hnew]; omega) | rfl | decide) | refine At.new_ne ?_)))) (call := s_setBeans (d := 0) bx hl) (k := ?_)
    intro h1 hq
    obtain ⟨bx1, sm1⟩ := hq
    have rc1 := rc.up (f := beD l v) e0 bx1 sm1
    obtain ⟨⟨ea1, a1⟩, -⟩ := id rc1
    refine tX6_hold_52  (r := ?_)
    refine tX6_hold_53  (r := ?_)
    refine tX6_hold_56 (hd := (by omega)) (ha := (by first | assumption | (repeat (first | assumption | exact At.set_eq2 (by first | omega | (simp only [hset, hnew]; omega) | rfl | decide) | exact At.new_eq2 _ _ (by first | omega | (simp only [hset, hnew]; omega) | rfl | decide) | refine At.set_ne ?_ (by first | omega | (simp only [hset, hnew]; omega) | rfl | decide) | refine At.new_ne ?_)))) (call := s_rtake (d := 1) (by decide) rc1 (by decide) (by decide)) (k := ?_)
    intro h2 rc2
    refine tX6_hold_59  (hP := ?_)
    exact ⟨rfl, rc2⟩

set_option maxHeartbeats 4000000 in
set_option maxRecDepth 100000 in
theorem s_rhold (hd : 2 ≤ d) (rc : Rc h0 h r dr K s) {l : Nat} (hl : l < 500) : RQ G mX6_hold d 0 [some (.ref r), some (.int (nI l)), none] [] h (Rv fun h1 => Rc h0 h1 r dr K (hoP K l s)) := by
  obtain ⟨⟨ea, a0⟩, tx, bx, sq, l1, l2, l3, l4⟩ := id rc
  have z0 := a0.1
  have b0 := bx.1
  have t0 := tx.1
  have hk43 := kdP_lt rc
  have hla := bx.2.2.2.2.2.2.2.2.2.1
  refine tX6_hold_0  (r := ?_)
  refine tX6_hold_1 (ha := (by first | assumption | (repeat (first | assumption | exact At.set_eq2 (by first | omega | (simp only [hset, hnew]; omega) | rfl | decide) | exact At.new_eq2 _ _ (by first | omega | (simp only [hset, hnew]; omega) | rfl | decide) | refine At.set_ne ?_ (by first | omega | (simp only [hset, hnew]; omega) | rfl | decide) | refine At.new_ne ?_)))) (hv := rfl) (r := ?_)
  refine tX6_hold_4  (r := ?_)
  refine tX6_hold_5 (ha := (by first | assumption | (repeat (first | assumption | exact At.set_eq2 (by first | omega | (simp only [hset, hnew]; omega) | rfl | decide) | exact At.new_eq2 _ _ (by first | omega | (simp only [hset, hnew]; omega) | rfl | decide) | refine At.set_ne ?_ (by first | omega | (simp only [hset, hnew]; omega) | rfl | decide) | refine At.new_ne ?_)))) (hv := rfl) (r := ?_)
  refine tX6_hold_8 (hd := (by omega)) (ha := (by first | assumption | (repeat (first | assumption | exact At.set_eq2 (by first | omega | (simp only [hset, hnew]; omega) | rfl | decide) | exact At.new_eq2 _ _ (by first | omega | (simp only [hset, hnew]; omega) | rfl | decide) | refine At.set_ne ?_ (by first | omega | (simp only [hset, hnew]; omega) | rfl | decide) | refine At.new_ne ?_)))) (call := s_tkValue (d := 0) tx (by omega)) (k := ?_)
  rintro x_ h_ ⟨hx_, e_⟩
  rw [e_, hx_]
  refine tX6_hold_11  (r := ?_)
  rw [nL_i32]
  refine tX6_hold_12  (r := ?_)
  refine tX6_hold_13  (r := ?_)
  refine tX6_hold_14  (r := ?_)
  refine tX6_hold_17  (kt := fun c_17 => ?_) (kf := fun c_17 => ?_)
  · refine tX6_hold_31  (r := ?_)
    refine tX6_hold_32  (r := ?_)
    refine tX6_hold_33 (hd := (by omega)) (ha := (by first | assumption | (repeat (first | assumption | exact At.set_eq2 (by first | omega | (simp only [hset, hnew]; omega) | rfl | decide) | exact At.new_eq2 _ _ (by first | omega | (simp only [hset, hnew]; omega) | rfl | decide) | refine At.set_ne ?_ (by first | omega | (simp only [hset, hnew]; omega) | rfl | decide) | refine At.new_ne ?_)))) (call := s_rrep (d := 1) rc (n := 5) (by decide)) (k := ?_)
    intro h1 rc1
    have e : (if (nI 200 < nI (vaP K s) ∨ bLa (pBk s) ≤ l) then rpP 5 s else s) = rpP 5 s := if_pos (Or.inl c_17)
    unfold hoP
    rw [e]
    exact s_rhold_36 hd rc1 hl
  · refine tX6_hold_20  (r := ?_)
    refine tX6_hold_21  (r := ?_)
    refine tX6_hold_22 (ha := (by first | assumption | (repeat (first | assumption | exact At.set_eq2 (by first | omega | (simp only [hset, hnew]; omega) | rfl | decide) | exact At.new_eq2 _ _ (by first | omega | (simp only [hset, hnew]; omega) | rfl | decide) | refine At.set_ne ?_ (by first | omega | (simp only [hset, hnew]; omega) | rfl | decide) | refine At.new_ne ?_)))) (hv := rfl) (r := ?_)
    refine tX6_hold_25 (ha := (by first | assumption | (repeat (first | assumption | exact At.set_eq2 (by first | omega | (simp only [hset, hnew]; omega) | rfl | decide) | exact At.new_eq2 _ _ (by first | omega | (simp only [hset, hnew]; omega) | rfl | decide) | refine At.set_ne ?_ (by first | omega | (simp only [hset, hnew]; omega) | rfl | decide) | refine At.new_ne ?_)))) (hv := rfl) (r := ?_)
    refine tX6_hold_28  (kt := fun c_28 => ?_) (kf := fun c_28 => ?_)
    · have e : (if (nI 200 < nI (vaP K s) ∨ bLa (pBk s) ≤ l) then rpP 5 s else s) = s := if_neg (fun z => z.elim c_17 (fun z => absurd ((nI_ltI (by omega) (by omega)).mp c_28) (Nat.not_lt.mpr z)))
      unfold hoP
      rw [e]
      exact s_rhold_36 hd rc hl
    · refine tX6_hold_31  (r := ?_)
      refine tX6_hold_32  (r := ?_)
      refine tX6_hold_33 (hd := (by omega)) (ha := (by first | assumption | (repeat (first | assumption | exact At.set_eq2 (by first | omega | (simp only [hset, hnew]; omega) | rfl | decide) | exact At.new_eq2 _ _ (by first | omega | (simp only [hset, hnew]; omega) | rfl | decide) | refine At.set_ne ?_ (by first | omega | (simp only [hset, hnew]; omega) | rfl | decide) | refine At.new_ne ?_)))) (call := s_rrep (d := 1) rc (n := 5) (by decide)) (k := ?_)
      intro h1 rc1
      have e : (if (nI 200 < nI (vaP K s) ∨ bLa (pBk s) ≤ l) then rpP 5 s else s) = rpP 5 s := if_pos (Or.inr (Nat.le_of_not_lt (fun z => c_28 ((nI_ltI (by omega) (by omega)).mpr z))))
      unfold hoP
      rw [e]
      exact s_rhold_36 hd rc1 hl

end REA
